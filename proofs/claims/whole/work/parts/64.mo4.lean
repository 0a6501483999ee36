/-! the reference: the list of messages -/
/-- the last message on (u, v) among the first n -/
def lsO (y : zMS) (u v : Nat) : Nat → Option Nat
  | 0 => none
  | n + 1 => if y_fr y n = u ∧ y_tt y n = v then some n else lsO y u v n
def oI (o : Option Nat) : Int32 := match o with
  | some m => nI m
  | none => -1
def T_Mo_lastOf (As : List zAV) (M : zMp) (Rt : Option zAV → zMp → Prop) : Prop := ∃ y u v, As = [.inr (30, 0, 0), .inl (.int (nI u)), .inl (.int (nI v))] ∧ M = mp y ∧ u < 12 ∧ v < 12 ∧ Jv y ∧ Rt (some (.inl (.int (oI (lsO y u v (y_ms y)))))) M
abbrev co_Mo_lastOf := co0
theorem dX7_lastOf_0 : decode cX7_lastOf 0 = .ok (.aload_n 0, 1) := by decide +kernel
theorem dX7_lastOf_1 : decode cX7_lastOf 1 = .ok (.getfield 129, 3) := by decide +kernel
theorem dX7_lastOf_4 : decode cX7_lastOf 4 = .ok (.iconst 1, 1) := by decide +kernel
theorem dX7_lastOf_5 : decode cX7_lastOf 5 = .ok (.isub, 1) := by decide +kernel
theorem dX7_lastOf_6 : decode cX7_lastOf 6 = .ok (.istore_n 3, 1) := by decide +kernel
theorem dX7_lastOf_7 : decode cX7_lastOf 7 = .ok (.iload_n 3, 1) := by decide +kernel
theorem dX7_lastOf_8 : decode cX7_lastOf 8 = .ok (.ifCond .lt 29, 3) := by decide +kernel
theorem dX7_lastOf_11 : decode cX7_lastOf 11 = .ok (.aload_n 0, 1) := by decide +kernel
theorem dX7_lastOf_12 : decode cX7_lastOf 12 = .ok (.getfield 57, 3) := by decide +kernel
theorem dX7_lastOf_15 : decode cX7_lastOf 15 = .ok (.iload_n 3, 1) := by decide +kernel
theorem dX7_lastOf_16 : decode cX7_lastOf 16 = .ok (.iaload, 1) := by decide +kernel
theorem dX7_lastOf_17 : decode cX7_lastOf 17 = .ok (.iload_n 1, 1) := by decide +kernel
theorem dX7_lastOf_18 : decode cX7_lastOf 18 = .ok (.if_icmp .ne 13, 3) := by decide +kernel
theorem dX7_lastOf_21 : decode cX7_lastOf 21 = .ok (.aload_n 0, 1) := by decide +kernel
theorem dX7_lastOf_22 : decode cX7_lastOf 22 = .ok (.getfield 60, 3) := by decide +kernel
theorem dX7_lastOf_25 : decode cX7_lastOf 25 = .ok (.iload_n 3, 1) := by decide +kernel
theorem dX7_lastOf_26 : decode cX7_lastOf 26 = .ok (.iaload, 1) := by decide +kernel
theorem dX7_lastOf_27 : decode cX7_lastOf 27 = .ok (.iload_n 2, 1) := by decide +kernel
theorem dX7_lastOf_28 : decode cX7_lastOf 28 = .ok (.if_icmp .eq 9, 3) := by decide +kernel
theorem dX7_lastOf_31 : decode cX7_lastOf 31 = .ok (.iinc 3 (-1), 3) := by decide +kernel
theorem dX7_lastOf_34 : decode cX7_lastOf 34 = .ok (.goto (-27), 3) := by decide +kernel
theorem dX7_lastOf_37 : decode cX7_lastOf 37 = .ok (.iload_n 3, 1) := by decide +kernel
theorem dX7_lastOf_38 : decode cX7_lastOf 38 = .ok (.ireturn, 1) := by decide +kernel
def B_Mo_lastOf_37 (mc ms : Nat) (Rt : Option zAV → zMp → Prop) (g : Nat → zKT) : zKT :=
  (i_il 3 (i_iret mc ms Rt))
set_option maxRecDepth 20000 in
theorem s_Mo_lastOf_37 {X : zMa} {mc ms : Nat} {Rt : Option zAV → zMp → Prop} (hC : zCx X RX7 cX7_lastOf 0 0 mc ms (some .int) false Rt) (hN : zNL X = 4) : zLe (B_Mo_lastOf_37 mc ms Rt (zG X)) (zG X 37) :=
  (sd_il_n hC rfl dX7_lastOf_37 ((sd_iret hC dX7_lastOf_38)))
def B_Mo_lastOf_31 (mc ms : Nat) (Rt : Option zAV → zMp → Prop) (g : Nat → zKT) : zKT :=
  (i_inc 3 (-1) (g 7))
set_option maxRecDepth 20000 in
theorem s_Mo_lastOf_31 {X : zMa} {mc ms : Nat} {Rt : Option zAV → zMp → Prop} (hC : zCx X RX7 cX7_lastOf 0 0 mc ms (some .int) false Rt) (hN : zNL X = 4) : zLe (B_Mo_lastOf_31 mc ms Rt (zG X)) (zG X 31) :=
  (sd_inc hC (by decide) (by rw [hN]; decide) dX7_lastOf_31 ((sd_goto hC (tgt := 7) (by decide) dX7_lastOf_34 (zLe_rfl))))
def B_Mo_lastOf_7 (mc ms : Nat) (Rt : Option zAV → zMp → Prop) (g : Nat → zKT) : zKT :=
  (i_il 3 (i_iflt (B_Mo_lastOf_37 mc ms Rt g) (i_al 0 (i_gf 8 20 (i_il 3 (i_ial (i_il 1 (i_icne (B_Mo_lastOf_31 mc ms Rt g) (i_al 0 (i_gf 8 21 (i_il 3 (i_ial (i_il 2 (i_iceq (B_Mo_lastOf_37 mc ms Rt g) (B_Mo_lastOf_31 mc ms Rt g)))))))))))))))
set_option maxRecDepth 20000 in
theorem s_Mo_lastOf_7 {X : zMa} {mc ms : Nat} {Rt : Option zAV → zMp → Prop} (hC : zCx X RX7 cX7_lastOf 0 0 mc ms (some .int) false Rt) (hN : zNL X = 4) : zLe (B_Mo_lastOf_7 mc ms Rt (zG X)) (zG X 7) :=
  (sd_il_n hC rfl dX7_lastOf_7 ((sd_iflt hC (tgt := 37) (by decide) dX7_lastOf_8 (s_Mo_lastOf_37 hC hN) ((sd_al_n hC rfl dX7_lastOf_11 ((sd_gf hC (ci := 8) (fk := 20) rfl wi_Mo (by decide) fl_Mo_57 (Or.inl rfl) dX7_lastOf_12 ((sd_il_n hC rfl dX7_lastOf_15 ((sd_ial hC dX7_lastOf_16 ((sd_il_n hC rfl dX7_lastOf_17 ((sd_icne hC (tgt := 31) (by decide) dX7_lastOf_18 (s_Mo_lastOf_31 hC hN) ((sd_al_n hC rfl dX7_lastOf_21 ((sd_gf hC (ci := 8) (fk := 21) rfl wi_Mo (by decide) fl_Mo_60 (Or.inl rfl) dX7_lastOf_22 ((sd_il_n hC rfl dX7_lastOf_25 ((sd_ial hC dX7_lastOf_26 ((sd_il_n hC rfl dX7_lastOf_27 ((sd_iceq hC (tgt := 37) (by decide) dX7_lastOf_28 (s_Mo_lastOf_37 hC hN) (s_Mo_lastOf_31 hC hN))))))))))))))))))))))))))))
def B_Mo_lastOf_0 (mc ms : Nat) (Rt : Option zAV → zMp → Prop) (g : Nat → zKT) : zKT :=
  (i_al 0 (i_gf 8 19 (i_ic 1 (i_isub (i_is 3 (g 7))))))
set_option maxRecDepth 20000 in
theorem s_Mo_lastOf_0 {X : zMa} {mc ms : Nat} {Rt : Option zAV → zMp → Prop} (hC : zCx X RX7 cX7_lastOf 0 0 mc ms (some .int) false Rt) (hN : zNL X = 4) : zLe (B_Mo_lastOf_0 mc ms Rt (zG X)) (zG X 0) :=
  (sd_al_n hC rfl dX7_lastOf_0 ((sd_gf hC (ci := 8) (fk := 19) rfl wi_Mo (by decide) fl_Mo_129 (Or.inl rfl) dX7_lastOf_1 ((sd_iconst hC (by decide) dX7_lastOf_4 ((sd_isub hC dX7_lastOf_5 ((sd_is_n hC rfl (by rw [hN]; decide) dX7_lastOf_6 (zLe_rfl))))))))))
theorem c_Mo_lastOf (l : Launch) : zCT l yX7_lastOf cX7_lastOf 4 (some .int) 0 0 T_Mo_lastOf co_Mo_lastOf := by
  intro As M Rt hT
  obtain ⟨y, u, v, rfl, rfl, hu, hv, hJ, hR⟩ := hT
  have hc := hJ.cp
  refine zMet_of false (by decide +kernel) (fun h => by first | rfl | cases h) (Nat.le_of_ble_eq_true rfl) (fun X hN hC => ?_)
  show zG X 0 [some (.inr (30, 0, 0)), some (.inl (.int (nI u))), some (.inl (.int (nI v))), none] [] (mp y) 0 0
  have loop : ∀ n, n ≤ y_ms y → lsO y u v n = lsO y u v (y_ms y) → zG X 7 [some (.inr (30, 0, 0)), some (.inl (.int (nI u))), some (.inl (.int (nI v))), some (.inl (.int (nI n - 1)))] [] (mp y) 0 0 := by
    intro n
    induction n with
    | zero =>
      intro _ he
      refine s_Mo_lastOf_7 hC hN _ _ _ _ _ ?_
      simp only [B_Mo_lastOf_0, B_Mo_lastOf_7, B_Mo_lastOf_31, B_Mo_lastOf_37, co_Mo_lastOf, i_ic, i_lc, i_nul, i_il, i_ll, i_al, i_is, i_as, i_ls, i_inc, i_iadd, i_isub, i_imul, i_iand, i_ior, i_ixor, i_idiv, i_irem, i_ishl, i_ishr, i_ladd, i_lsub, i_land, i_lor, i_i2l, i_lushr, i_lshl, i_lshr, i_lcmp, i_dup, i_pop, i_dx1, i_dup2, i_ifeq, i_ifne, i_iflt, i_ifge, i_ifgt, i_ifle, i_iceq, i_icne, i_iclt, i_icge, i_icgt, i_icle, i_ifn, i_gf, i_pf, i_ial, i_bal, i_lal, i_aal, i_ias, i_las, i_bas, i_aas, i_alen, i_newa, i_new, i_anew, i_cast, i_oi, i_call, i_callV, i_callV2, i_callI, i_iret, i_zret, i_lret, i_vret, i_aret, i_mmx, i_mmn, i_gsE, i_aceq, i_no, i_acq, i_sw, zsw, zlg, zls, znl, zfg, zcs, zsp, zrc, zisn, zft, zc1, zto, Value.category, List.set_cons_zero, List.set_cons_succ, List.length_cons, List.length_nil, Option.toList, List.append, List.nil_append, List.cons_append, true_and, and_true, Nat.add_zero, Nat.zero_le, Nat.zero_add, Nat.le_refl, Nat.reduceAdd, Nat.reduceLeDiff, co0, z0, zn_0, zn_1, zn_2, zn_3, zn_4, zn_5, zn_8, zn_12, zn_24, zn_121, zn_144, zn_256, zn_300, zn_600, zn_720, zn_1204, zn_1280, zn_2400, zn_4816, zn_14400, zn_90000, q_main, m_main]
      rw [← he] at hR
      exact ⟨fun _ => hR, fun h => absurd (by decide) h⟩
    | succ n ih =>
      intro hn he
      have hm := hJ.ms n (by omega)
      rw [nI_pred]
      refine s_Mo_lastOf_7 hC hN _ _ _ _ _ ?_
      simp only [B_Mo_lastOf_0, B_Mo_lastOf_7, B_Mo_lastOf_31, B_Mo_lastOf_37, co_Mo_lastOf, i_ic, i_lc, i_nul, i_il, i_ll, i_al, i_is, i_as, i_ls, i_inc, i_iadd, i_isub, i_imul, i_iand, i_ior, i_ixor, i_idiv, i_irem, i_ishl, i_ishr, i_ladd, i_lsub, i_land, i_lor, i_i2l, i_lushr, i_lshl, i_lshr, i_lcmp, i_dup, i_pop, i_dx1, i_dup2, i_ifeq, i_ifne, i_iflt, i_ifge, i_ifgt, i_ifle, i_iceq, i_icne, i_iclt, i_icge, i_icgt, i_icle, i_ifn, i_gf, i_pf, i_ial, i_bal, i_lal, i_aal, i_ias, i_las, i_bas, i_aas, i_alen, i_newa, i_new, i_anew, i_cast, i_oi, i_call, i_callV, i_callV2, i_callI, i_iret, i_zret, i_lret, i_vret, i_aret, i_mmx, i_mmn, i_gsE, i_aceq, i_no, i_acq, i_sw, zsw, zlg, zls, znl, zfg, zcs, zsp, zrc, zisn, zft, zc1, zto, Value.category, List.set_cons_zero, List.set_cons_succ, List.length_cons, List.length_nil, Option.toList, List.append, List.nil_append, List.cons_append, true_and, and_true, Nat.add_zero, Nat.zero_le, Nat.zero_add, Nat.le_refl, Nat.reduceAdd, Nat.reduceLeDiff, co0, z0, zn_0, zn_1, zn_2, zn_3, zn_4, zn_5, zn_8, zn_12, zn_24, zn_121, zn_144, zn_256, zn_300, zn_600, zn_720, zn_1204, zn_1280, zn_2400, zn_4816, zn_14400, zn_90000, q_main, m_main, q_fr, q_tt]
      rw [nI_clamp (by omega)]
      rw [← he] at hR
      have em : nI n + -1 = nI n - 1 := by rw [Int32.sub_eq_add_neg]
      rw [em]
      simp only [lsO] at hR he
      refine ⟨fun h => absurd h (nI_pos (by omega)), fun _ => ⟨vp_in_nI (by omega) (by omega), fun h1 => ?_, fun h1 => ⟨vp_in_nI (by omega) (by omega), fun h2 => ?_, fun h2 => ?_⟩⟩⟩
      · rw [if_neg (fun q => h1 (by rw [q.1]))] at he
        exact ih (by omega) he
      · rw [if_pos ⟨(nI_eq (by omega) (by omega)).mp h1, (nI_eq (by omega) (by omega)).mp h2⟩] at hR
        exact hR
      · rw [if_neg (fun q => h2 (by rw [q.2]))] at he
        exact ih (by omega) he
  refine s_Mo_lastOf_0 hC hN _ _ _ _ _ ?_
  simp only [B_Mo_lastOf_0, B_Mo_lastOf_7, B_Mo_lastOf_31, B_Mo_lastOf_37, co_Mo_lastOf, i_ic, i_lc, i_nul, i_il, i_ll, i_al, i_is, i_as, i_ls, i_inc, i_iadd, i_isub, i_imul, i_iand, i_ior, i_ixor, i_idiv, i_irem, i_ishl, i_ishr, i_ladd, i_lsub, i_land, i_lor, i_i2l, i_lushr, i_lshl, i_lshr, i_lcmp, i_dup, i_pop, i_dx1, i_dup2, i_ifeq, i_ifne, i_iflt, i_ifge, i_ifgt, i_ifle, i_iceq, i_icne, i_iclt, i_icge, i_icgt, i_icle, i_ifn, i_gf, i_pf, i_ial, i_bal, i_lal, i_aal, i_ias, i_las, i_bas, i_aas, i_alen, i_newa, i_new, i_anew, i_cast, i_oi, i_call, i_callV, i_callV2, i_callI, i_iret, i_zret, i_lret, i_vret, i_aret, i_mmx, i_mmn, i_gsE, i_aceq, i_no, i_acq, i_sw, zsw, zlg, zls, znl, zfg, zcs, zsp, zrc, zisn, zft, zc1, zto, Value.category, List.set_cons_zero, List.set_cons_succ, List.length_cons, List.length_nil, Option.toList, List.append, List.nil_append, List.cons_append, true_and, and_true, Nat.add_zero, Nat.zero_le, Nat.zero_add, Nat.le_refl, Nat.reduceAdd, Nat.reduceLeDiff, co0, z0, zn_0, zn_1, zn_2, zn_3, zn_4, zn_5, zn_8, zn_12, zn_24, zn_121, zn_144, zn_256, zn_300, zn_600, zn_720, zn_1204, zn_1280, zn_2400, zn_4816, zn_14400, zn_90000, q_main, m_main]
  exact loop _ (Nat.le_refl _) rfl
/-- the first message on (u, v) among the first n -/
def fsO (y : zMS) (u v : Nat) : Nat → Option Nat
  | 0 => none
  | n + 1 => match fsO y u v n with
    | some m => some m
    | none => if y_fr y n = u ∧ y_tt y n = v then some n else none
theorem fsO_s {y : zMS} {u v n m : Nat} (h : fsO y u v n = some m) : ∀ k, n ≤ k → fsO y u v k = some m := fun k hk => by
  induction hk with
  | refl => exact h
  | step _ ih => simp only [fsO, ih]
def T_Mo_firstOf (As : List zAV) (M : zMp) (Rt : Option zAV → zMp → Prop) : Prop := ∃ y u v, As = [.inr (30, 0, 0), .inl (.int (nI u)), .inl (.int (nI v))] ∧ M = mp y ∧ u < 12 ∧ v < 12 ∧ Jv y ∧ Rt (some (.inl (.int (oI (fsO y u v (y_ms y)))))) M
abbrev co_Mo_firstOf := co0
theorem dX7_firstOf_0 : decode cX7_firstOf 0 = .ok (.iconst 0, 1) := by decide +kernel
theorem dX7_firstOf_1 : decode cX7_firstOf 1 = .ok (.istore_n 3, 1) := by decide +kernel
theorem dX7_firstOf_2 : decode cX7_firstOf 2 = .ok (.iload_n 3, 1) := by decide +kernel
theorem dX7_firstOf_3 : decode cX7_firstOf 3 = .ok (.aload_n 0, 1) := by decide +kernel
theorem dX7_firstOf_4 : decode cX7_firstOf 4 = .ok (.getfield 129, 3) := by decide +kernel
theorem dX7_firstOf_7 : decode cX7_firstOf 7 = .ok (.if_icmp .ge 31, 3) := by decide +kernel
theorem dX7_firstOf_10 : decode cX7_firstOf 10 = .ok (.aload_n 0, 1) := by decide +kernel
theorem dX7_firstOf_11 : decode cX7_firstOf 11 = .ok (.getfield 57, 3) := by decide +kernel
theorem dX7_firstOf_14 : decode cX7_firstOf 14 = .ok (.iload_n 3, 1) := by decide +kernel
theorem dX7_firstOf_15 : decode cX7_firstOf 15 = .ok (.iaload, 1) := by decide +kernel
theorem dX7_firstOf_16 : decode cX7_firstOf 16 = .ok (.iload_n 1, 1) := by decide +kernel
theorem dX7_firstOf_17 : decode cX7_firstOf 17 = .ok (.if_icmp .ne 15, 3) := by decide +kernel
theorem dX7_firstOf_20 : decode cX7_firstOf 20 = .ok (.aload_n 0, 1) := by decide +kernel
theorem dX7_firstOf_21 : decode cX7_firstOf 21 = .ok (.getfield 60, 3) := by decide +kernel
theorem dX7_firstOf_24 : decode cX7_firstOf 24 = .ok (.iload_n 3, 1) := by decide +kernel
theorem dX7_firstOf_25 : decode cX7_firstOf 25 = .ok (.iaload, 1) := by decide +kernel
theorem dX7_firstOf_26 : decode cX7_firstOf 26 = .ok (.iload_n 2, 1) := by decide +kernel
theorem dX7_firstOf_27 : decode cX7_firstOf 27 = .ok (.if_icmp .ne 5, 3) := by decide +kernel
theorem dX7_firstOf_30 : decode cX7_firstOf 30 = .ok (.iload_n 3, 1) := by decide +kernel
theorem dX7_firstOf_31 : decode cX7_firstOf 31 = .ok (.ireturn, 1) := by decide +kernel
theorem dX7_firstOf_32 : decode cX7_firstOf 32 = .ok (.iinc 3 1, 3) := by decide +kernel
theorem dX7_firstOf_35 : decode cX7_firstOf 35 = .ok (.goto (-33), 3) := by decide +kernel
theorem dX7_firstOf_38 : decode cX7_firstOf 38 = .ok (.iconst (-1), 1) := by decide +kernel
theorem dX7_firstOf_39 : decode cX7_firstOf 39 = .ok (.ireturn, 1) := by decide +kernel
def B_Mo_firstOf_38 (mc ms : Nat) (Rt : Option zAV → zMp → Prop) (g : Nat → zKT) : zKT :=
  (i_ic (-1) (i_iret mc ms Rt))
set_option maxRecDepth 20000 in
theorem s_Mo_firstOf_38 {X : zMa} {mc ms : Nat} {Rt : Option zAV → zMp → Prop} (hC : zCx X RX7 cX7_firstOf 0 0 mc ms (some .int) false Rt) (hN : zNL X = 4) : zLe (B_Mo_firstOf_38 mc ms Rt (zG X)) (zG X 38) :=
  (sd_iconst hC (by decide) dX7_firstOf_38 ((sd_iret hC dX7_firstOf_39)))
def B_Mo_firstOf_32 (mc ms : Nat) (Rt : Option zAV → zMp → Prop) (g : Nat → zKT) : zKT :=
  (i_inc 3 1 (g 2))
set_option maxRecDepth 20000 in
theorem s_Mo_firstOf_32 {X : zMa} {mc ms : Nat} {Rt : Option zAV → zMp → Prop} (hC : zCx X RX7 cX7_firstOf 0 0 mc ms (some .int) false Rt) (hN : zNL X = 4) : zLe (B_Mo_firstOf_32 mc ms Rt (zG X)) (zG X 32) :=
  (sd_inc hC (by decide) (by rw [hN]; decide) dX7_firstOf_32 ((sd_goto hC (tgt := 2) (by decide) dX7_firstOf_35 (zLe_rfl))))
def B_Mo_firstOf_2 (mc ms : Nat) (Rt : Option zAV → zMp → Prop) (g : Nat → zKT) : zKT :=
  (i_il 3 (i_al 0 (i_gf 8 19 (i_icge (B_Mo_firstOf_38 mc ms Rt g) (i_al 0 (i_gf 8 20 (i_il 3 (i_ial (i_il 1 (i_icne (B_Mo_firstOf_32 mc ms Rt g) (i_al 0 (i_gf 8 21 (i_il 3 (i_ial (i_il 2 (i_icne (B_Mo_firstOf_32 mc ms Rt g) (i_il 3 (i_iret mc ms Rt))))))))))))))))))
set_option maxRecDepth 20000 in
theorem s_Mo_firstOf_2 {X : zMa} {mc ms : Nat} {Rt : Option zAV → zMp → Prop} (hC : zCx X RX7 cX7_firstOf 0 0 mc ms (some .int) false Rt) (hN : zNL X = 4) : zLe (B_Mo_firstOf_2 mc ms Rt (zG X)) (zG X 2) :=
  (sd_il_n hC rfl dX7_firstOf_2 ((sd_al_n hC rfl dX7_firstOf_3 ((sd_gf hC (ci := 8) (fk := 19) rfl wi_Mo (by decide) fl_Mo_129 (Or.inl rfl) dX7_firstOf_4 ((sd_icge hC (tgt := 38) (by decide) dX7_firstOf_7 (s_Mo_firstOf_38 hC hN) ((sd_al_n hC rfl dX7_firstOf_10 ((sd_gf hC (ci := 8) (fk := 20) rfl wi_Mo (by decide) fl_Mo_57 (Or.inl rfl) dX7_firstOf_11 ((sd_il_n hC rfl dX7_firstOf_14 ((sd_ial hC dX7_firstOf_15 ((sd_il_n hC rfl dX7_firstOf_16 ((sd_icne hC (tgt := 32) (by decide) dX7_firstOf_17 (s_Mo_firstOf_32 hC hN) ((sd_al_n hC rfl dX7_firstOf_20 ((sd_gf hC (ci := 8) (fk := 21) rfl wi_Mo (by decide) fl_Mo_60 (Or.inl rfl) dX7_firstOf_21 ((sd_il_n hC rfl dX7_firstOf_24 ((sd_ial hC dX7_firstOf_25 ((sd_il_n hC rfl dX7_firstOf_26 ((sd_icne hC (tgt := 32) (by decide) dX7_firstOf_27 (s_Mo_firstOf_32 hC hN) ((sd_il_n hC rfl dX7_firstOf_30 ((sd_iret hC dX7_firstOf_31)))))))))))))))))))))))))))))))))))
def B_Mo_firstOf_0 (mc ms : Nat) (Rt : Option zAV → zMp → Prop) (g : Nat → zKT) : zKT :=
  (i_ic 0 (i_is 3 (g 2)))
set_option maxRecDepth 20000 in
theorem s_Mo_firstOf_0 {X : zMa} {mc ms : Nat} {Rt : Option zAV → zMp → Prop} (hC : zCx X RX7 cX7_firstOf 0 0 mc ms (some .int) false Rt) (hN : zNL X = 4) : zLe (B_Mo_firstOf_0 mc ms Rt (zG X)) (zG X 0) :=
  (sd_iconst hC (by decide) dX7_firstOf_0 ((sd_is_n hC rfl (by rw [hN]; decide) dX7_firstOf_1 (zLe_rfl))))
theorem c_Mo_firstOf (l : Launch) : zCT l yX7_firstOf cX7_firstOf 4 (some .int) 0 0 T_Mo_firstOf co_Mo_firstOf := by
  intro As M Rt hT
  obtain ⟨y, u, v, rfl, rfl, hu, hv, hJ, hR⟩ := hT
  have hc := hJ.cp
  refine zMet_of false (by decide +kernel) (fun h => by first | rfl | cases h) (Nat.le_of_ble_eq_true rfl) (fun X hN hC => ?_)
  show zG X 0 [some (.inr (30, 0, 0)), some (.inl (.int (nI u))), some (.inl (.int (nI v))), none] [] (mp y) 0 0
  have loop := upto (N := y_ms y) (P := fun n => fsO y u v n = none → zG X 2 [some (.inr (30, 0, 0)), some (.inl (.int (nI u))), some (.inl (.int (nI v))), some (.inl (.int (nI n)))] [] (mp y) 0 0) (fun n hn ih hz => by
    have hm := hJ.ms n hn
    refine s_Mo_firstOf_2 hC hN _ _ _ _ _ ?_
    simp only [B_Mo_firstOf_0, B_Mo_firstOf_2, B_Mo_firstOf_32, B_Mo_firstOf_38, co_Mo_firstOf, i_ic, i_lc, i_nul, i_il, i_ll, i_al, i_is, i_as, i_ls, i_inc, i_iadd, i_isub, i_imul, i_iand, i_ior, i_ixor, i_idiv, i_irem, i_ishl, i_ishr, i_ladd, i_lsub, i_land, i_lor, i_i2l, i_lushr, i_lshl, i_lshr, i_lcmp, i_dup, i_pop, i_dx1, i_dup2, i_ifeq, i_ifne, i_iflt, i_ifge, i_ifgt, i_ifle, i_iceq, i_icne, i_iclt, i_icge, i_icgt, i_icle, i_ifn, i_gf, i_pf, i_ial, i_bal, i_lal, i_aal, i_ias, i_las, i_bas, i_aas, i_alen, i_newa, i_new, i_anew, i_cast, i_oi, i_call, i_callV, i_callV2, i_callI, i_iret, i_zret, i_lret, i_vret, i_aret, i_mmx, i_mmn, i_gsE, i_aceq, i_no, i_acq, i_sw, zsw, zlg, zls, znl, zfg, zcs, zsp, zrc, zisn, zft, zc1, zto, Value.category, List.set_cons_zero, List.set_cons_succ, List.length_cons, List.length_nil, Option.toList, List.append, List.nil_append, List.cons_append, true_and, and_true, Nat.add_zero, Nat.zero_le, Nat.zero_add, Nat.le_refl, Nat.reduceAdd, Nat.reduceLeDiff, co0, z0, zn_0, zn_1, zn_2, zn_3, zn_4, zn_5, zn_8, zn_12, zn_24, zn_121, zn_144, zn_256, zn_300, zn_600, zn_720, zn_1204, zn_1280, zn_2400, zn_4816, zn_14400, zn_90000, q_main, m_main, q_fr, q_tt]
    rw [nI_clamp (by omega), nI_1]
    simp only [fsO, hz] at ih
    refine ⟨fun h => absurd ((zK (K := y_ms y) (by omega) (n := n) (by omega)).2.1.mp h) (by omega), fun _ => ⟨vp_in_nI (by omega) (by omega), fun h1 => ih (if_neg (fun q => h1 (by rw [q.1]))), fun h1 => ⟨vp_in_nI (by omega) (by omega), fun h2 => ih (if_neg (fun q => h2 (by rw [q.2]))), fun h2 => ?_⟩⟩⟩
    have : fsO y u v (n + 1) = some n := by
      simp only [fsO, hz]
      exact if_pos ⟨(nI_eq (by omega) (by omega)).mp h1, (nI_eq (by omega) (by omega)).mp h2⟩
    rw [fsO_s this (y_ms y) hn] at hR
    exact hR) (fun hz => by
    refine s_Mo_firstOf_2 hC hN _ _ _ _ _ ?_
    simp only [B_Mo_firstOf_0, B_Mo_firstOf_2, B_Mo_firstOf_32, B_Mo_firstOf_38, co_Mo_firstOf, i_ic, i_lc, i_nul, i_il, i_ll, i_al, i_is, i_as, i_ls, i_inc, i_iadd, i_isub, i_imul, i_iand, i_ior, i_ixor, i_idiv, i_irem, i_ishl, i_ishr, i_ladd, i_lsub, i_land, i_lor, i_i2l, i_lushr, i_lshl, i_lshr, i_lcmp, i_dup, i_pop, i_dx1, i_dup2, i_ifeq, i_ifne, i_iflt, i_ifge, i_ifgt, i_ifle, i_iceq, i_icne, i_iclt, i_icge, i_icgt, i_icle, i_ifn, i_gf, i_pf, i_ial, i_bal, i_lal, i_aal, i_ias, i_las, i_bas, i_aas, i_alen, i_newa, i_new, i_anew, i_cast, i_oi, i_call, i_callV, i_callV2, i_callI, i_iret, i_zret, i_lret, i_vret, i_aret, i_mmx, i_mmn, i_gsE, i_aceq, i_no, i_acq, i_sw, zsw, zlg, zls, znl, zfg, zcs, zsp, zrc, zisn, zft, zc1, zto, Value.category, List.set_cons_zero, List.set_cons_succ, List.length_cons, List.length_nil, Option.toList, List.append, List.nil_append, List.cons_append, true_and, and_true, Nat.add_zero, Nat.zero_le, Nat.zero_add, Nat.le_refl, Nat.reduceAdd, Nat.reduceLeDiff, co0, z0, zn_0, zn_1, zn_2, zn_3, zn_4, zn_5, zn_8, zn_12, zn_24, zn_121, zn_144, zn_256, zn_300, zn_600, zn_720, zn_1204, zn_1280, zn_2400, zn_4816, zn_14400, zn_90000, q_main, m_main]
    rw [hz] at hR
    exact ⟨fun _ => hR, fun h => absurd ((zK (K := y_ms y) (by omega) (n := y_ms y) (by omega)).2.1.mpr (Nat.le_refl _)) h⟩) 0 (Nat.zero_le _)
  refine s_Mo_firstOf_0 hC hN _ _ _ _ _ ?_
  simp only [B_Mo_firstOf_0, B_Mo_firstOf_2, B_Mo_firstOf_32, B_Mo_firstOf_38, co_Mo_firstOf, i_ic, i_lc, i_nul, i_il, i_ll, i_al, i_is, i_as, i_ls, i_inc, i_iadd, i_isub, i_imul, i_iand, i_ior, i_ixor, i_idiv, i_irem, i_ishl, i_ishr, i_ladd, i_lsub, i_land, i_lor, i_i2l, i_lushr, i_lshl, i_lshr, i_lcmp, i_dup, i_pop, i_dx1, i_dup2, i_ifeq, i_ifne, i_iflt, i_ifge, i_ifgt, i_ifle, i_iceq, i_icne, i_iclt, i_icge, i_icgt, i_icle, i_ifn, i_gf, i_pf, i_ial, i_bal, i_lal, i_aal, i_ias, i_las, i_bas, i_aas, i_alen, i_newa, i_new, i_anew, i_cast, i_oi, i_call, i_callV, i_callV2, i_callI, i_iret, i_zret, i_lret, i_vret, i_aret, i_mmx, i_mmn, i_gsE, i_aceq, i_no, i_acq, i_sw, zsw, zlg, zls, znl, zfg, zcs, zsp, zrc, zisn, zft, zc1, zto, Value.category, List.set_cons_zero, List.set_cons_succ, List.length_cons, List.length_nil, Option.toList, List.append, List.nil_append, List.cons_append, true_and, and_true, Nat.add_zero, Nat.zero_le, Nat.zero_add, Nat.le_refl, Nat.reduceAdd, Nat.reduceLeDiff, co0, z0, zn_0, zn_1, zn_2, zn_3, zn_4, zn_5, zn_8, zn_12, zn_24, zn_121, zn_144, zn_256, zn_300, zn_600, zn_720, zn_1204, zn_1280, zn_2400, zn_4816, zn_14400, zn_90000]
  exact loop rfl
/-! drop -/
def dr_f {α : Type} (f : Nat → α) (m n : Nat) : Nat → α := fun k => if m ≤ k ∧ k < n then f (k + 1) else f k
def dr_r (f : Nat → Int64) (m n : Nat) : Nat → Int64 := fun k => if 5 * m ≤ k ∧ k < n then f (k + 5) else f k
/-- the list after the messages m .. n were moved -/
def dr_y (y : zMS) (m n : Nat) : zMS := v_rw (v_wh (v_tt (v_fr y (dr_f (y_fr y) m n)) (dr_f (y_tt y) m n)) (dr_f (y_wh y) m n)) (dr_r (y_rw y) m (5 * n))
def dr (y : zMS) (m : Nat) : zMS := dr_y (v_ms y (y_ms y - 1)) m (y_ms y - 1)
theorem dr_up {α : Type} (f : Nat → α) {m k : Nat} (h : m ≤ k) : va_up (dr_f f m k) k (f (k + 1)) = dr_f f m (k + 1) := by
  funext j
  simp only [va_up, dr_f]
  by_cases e : j = k
  · rw [if_pos e, if_pos (by omega), e]
  · rw [if_neg e]
    by_cases c : m ≤ j ∧ j < k
    · rw [if_pos c, if_pos (by omega)]
    · rw [if_neg c, if_neg (by omega)]
theorem dr_upL (f : Nat → Int64) {m k : Nat} (h : 5 * m ≤ k) : vp_updL (dr_r f m k) k (f (k + 5)) = dr_r f m (k + 1) := by
  funext j
  simp only [vp_updL, dr_r]
  by_cases e : j = k
  · rw [if_pos e, if_pos (by omega), e]
  · rw [if_neg e]
    by_cases c : 5 * m ≤ j ∧ j < k
    · rw [if_pos c, if_pos (by omega)]
    · rw [if_neg c, if_neg (by omega)]
theorem dr_o {α : Type} (f : Nat → α) {m k j : Nat} (h : k ≤ j) : dr_f f m k j = f j := if_neg (by omega)
theorem dr_oL (f : Nat → Int64) {m k j : Nat} (h : k ≤ j) : dr_r f m k j = f j := if_neg (by omega)
theorem dr_0 {α : Type} (f : Nat → α) (m : Nat) : dr_f f m m = f := by funext j; exact if_neg (by omega)
theorem dr_0L (f : Nat → Int64) (m : Nat) : dr_r f m (5 * m) = f := by funext j; exact if_neg (by omega)
theorem upd_va (f : Nat → Int32) (k : Nat) (v : Int32) : upd f k v = va_up f k v := rfl
theorem dr_yy (z : zMS) (m : Nat) : dr_y z m m = z := by
  unfold dr_y
  rw [dr_0, dr_0, dr_0, dr_0L]
  rfl
def T_Mo_drop (As : List zAV) (M : zMp) (Rt : Option zAV → zMp → Prop) : Prop := ∃ y m, As = [.inr (30, 0, 0), .inl (.int (nI m))] ∧ M = mp y ∧ m < y_ms y ∧ Jv y ∧ Rt none (mp (dr y m))
abbrev co_Mo_drop := co0
theorem dX7_drop_0 : decode cX7_drop 0 = .ok (.aload_n 0, 1) := by decide +kernel
theorem dX7_drop_1 : decode cX7_drop 1 = .ok (.dup, 1) := by decide +kernel
theorem dX7_drop_2 : decode cX7_drop 2 = .ok (.getfield 129, 3) := by decide +kernel
theorem dX7_drop_5 : decode cX7_drop 5 = .ok (.iconst 1, 1) := by decide +kernel
theorem dX7_drop_6 : decode cX7_drop 6 = .ok (.isub, 1) := by decide +kernel
theorem dX7_drop_7 : decode cX7_drop 7 = .ok (.putfield 129, 3) := by decide +kernel
theorem dX7_drop_10 : decode cX7_drop 10 = .ok (.iload_n 1, 1) := by decide +kernel
theorem dX7_drop_11 : decode cX7_drop 11 = .ok (.istore_n 2, 1) := by decide +kernel
theorem dX7_drop_12 : decode cX7_drop 12 = .ok (.iload_n 2, 1) := by decide +kernel
theorem dX7_drop_13 : decode cX7_drop 13 = .ok (.aload_n 0, 1) := by decide +kernel
theorem dX7_drop_14 : decode cX7_drop 14 = .ok (.getfield 129, 3) := by decide +kernel
theorem dX7_drop_17 : decode cX7_drop 17 = .ok (.if_icmp .ge 86, 3) := by decide +kernel
theorem dX7_drop_20 : decode cX7_drop 20 = .ok (.aload_n 0, 1) := by decide +kernel
theorem dX7_drop_21 : decode cX7_drop 21 = .ok (.getfield 57, 3) := by decide +kernel
theorem dX7_drop_24 : decode cX7_drop 24 = .ok (.iload_n 2, 1) := by decide +kernel
theorem dX7_drop_25 : decode cX7_drop 25 = .ok (.aload_n 0, 1) := by decide +kernel
theorem dX7_drop_26 : decode cX7_drop 26 = .ok (.getfield 57, 3) := by decide +kernel
theorem dX7_drop_29 : decode cX7_drop 29 = .ok (.iload_n 2, 1) := by decide +kernel
theorem dX7_drop_30 : decode cX7_drop 30 = .ok (.iconst 1, 1) := by decide +kernel
theorem dX7_drop_31 : decode cX7_drop 31 = .ok (.iadd, 1) := by decide +kernel
theorem dX7_drop_32 : decode cX7_drop 32 = .ok (.iaload, 1) := by decide +kernel
theorem dX7_drop_33 : decode cX7_drop 33 = .ok (.iastore, 1) := by decide +kernel
theorem dX7_drop_34 : decode cX7_drop 34 = .ok (.aload_n 0, 1) := by decide +kernel
theorem dX7_drop_35 : decode cX7_drop 35 = .ok (.getfield 60, 3) := by decide +kernel
theorem dX7_drop_38 : decode cX7_drop 38 = .ok (.iload_n 2, 1) := by decide +kernel
theorem dX7_drop_39 : decode cX7_drop 39 = .ok (.aload_n 0, 1) := by decide +kernel
theorem dX7_drop_40 : decode cX7_drop 40 = .ok (.getfield 60, 3) := by decide +kernel
theorem dX7_drop_43 : decode cX7_drop 43 = .ok (.iload_n 2, 1) := by decide +kernel
theorem dX7_drop_44 : decode cX7_drop 44 = .ok (.iconst 1, 1) := by decide +kernel
theorem dX7_drop_45 : decode cX7_drop 45 = .ok (.iadd, 1) := by decide +kernel
theorem dX7_drop_46 : decode cX7_drop 46 = .ok (.iaload, 1) := by decide +kernel
theorem dX7_drop_47 : decode cX7_drop 47 = .ok (.iastore, 1) := by decide +kernel
theorem dX7_drop_48 : decode cX7_drop 48 = .ok (.aload_n 0, 1) := by decide +kernel
theorem dX7_drop_49 : decode cX7_drop 49 = .ok (.getfield 63, 3) := by decide +kernel
theorem dX7_drop_52 : decode cX7_drop 52 = .ok (.iload_n 2, 1) := by decide +kernel
theorem dX7_drop_53 : decode cX7_drop 53 = .ok (.aload_n 0, 1) := by decide +kernel
theorem dX7_drop_54 : decode cX7_drop 54 = .ok (.getfield 63, 3) := by decide +kernel
theorem dX7_drop_57 : decode cX7_drop 57 = .ok (.iload_n 2, 1) := by decide +kernel
theorem dX7_drop_58 : decode cX7_drop 58 = .ok (.iconst 1, 1) := by decide +kernel
theorem dX7_drop_59 : decode cX7_drop 59 = .ok (.iadd, 1) := by decide +kernel
theorem dX7_drop_60 : decode cX7_drop 60 = .ok (.iaload, 1) := by decide +kernel
theorem dX7_drop_61 : decode cX7_drop 61 = .ok (.iastore, 1) := by decide +kernel
theorem dX7_drop_62 : decode cX7_drop 62 = .ok (.iconst 0, 1) := by decide +kernel
theorem dX7_drop_63 : decode cX7_drop 63 = .ok (.istore_n 3, 1) := by decide +kernel
theorem dX7_drop_64 : decode cX7_drop 64 = .ok (.iload_n 3, 1) := by decide +kernel
theorem dX7_drop_65 : decode cX7_drop 65 = .ok (.iconst 5, 1) := by decide +kernel
theorem dX7_drop_66 : decode cX7_drop 66 = .ok (.if_icmp .ge 31, 3) := by decide +kernel
theorem dX7_drop_69 : decode cX7_drop 69 = .ok (.aload_n 0, 1) := by decide +kernel
theorem dX7_drop_70 : decode cX7_drop 70 = .ok (.getfield 66, 3) := by decide +kernel
theorem dX7_drop_73 : decode cX7_drop 73 = .ok (.iconst 5, 1) := by decide +kernel
theorem dX7_drop_74 : decode cX7_drop 74 = .ok (.iload_n 2, 1) := by decide +kernel
theorem dX7_drop_75 : decode cX7_drop 75 = .ok (.imul, 1) := by decide +kernel
theorem dX7_drop_76 : decode cX7_drop 76 = .ok (.iload_n 3, 1) := by decide +kernel
theorem dX7_drop_77 : decode cX7_drop 77 = .ok (.iadd, 1) := by decide +kernel
theorem dX7_drop_78 : decode cX7_drop 78 = .ok (.aload_n 0, 1) := by decide +kernel
theorem dX7_drop_79 : decode cX7_drop 79 = .ok (.getfield 66, 3) := by decide +kernel
theorem dX7_drop_82 : decode cX7_drop 82 = .ok (.iconst 5, 1) := by decide +kernel
theorem dX7_drop_83 : decode cX7_drop 83 = .ok (.iload_n 2, 1) := by decide +kernel
theorem dX7_drop_84 : decode cX7_drop 84 = .ok (.iconst 1, 1) := by decide +kernel
theorem dX7_drop_85 : decode cX7_drop 85 = .ok (.iadd, 1) := by decide +kernel
theorem dX7_drop_86 : decode cX7_drop 86 = .ok (.imul, 1) := by decide +kernel
theorem dX7_drop_87 : decode cX7_drop 87 = .ok (.iload_n 3, 1) := by decide +kernel
theorem dX7_drop_88 : decode cX7_drop 88 = .ok (.iadd, 1) := by decide +kernel
theorem dX7_drop_89 : decode cX7_drop 89 = .ok (.laload, 1) := by decide +kernel
theorem dX7_drop_90 : decode cX7_drop 90 = .ok (.lastore, 1) := by decide +kernel
theorem dX7_drop_91 : decode cX7_drop 91 = .ok (.iinc 3 1, 3) := by decide +kernel
theorem dX7_drop_94 : decode cX7_drop 94 = .ok (.goto (-30), 3) := by decide +kernel
theorem dX7_drop_97 : decode cX7_drop 97 = .ok (.iinc 2 1, 3) := by decide +kernel
theorem dX7_drop_100 : decode cX7_drop 100 = .ok (.goto (-88), 3) := by decide +kernel
theorem dX7_drop_103 : decode cX7_drop 103 = .ok (.return_, 1) := by decide +kernel
def B_Mo_drop_103 (mc ms : Nat) (Rt : Option zAV → zMp → Prop) (g : Nat → zKT) : zKT :=
  (i_vret mc ms Rt)
set_option maxRecDepth 20000 in
theorem s_Mo_drop_103 {X : zMa} {mc ms : Nat} {Rt : Option zAV → zMp → Prop} (hC : zCx X RX7 cX7_drop 0 0 mc ms (none) false Rt) (hN : zNL X = 4) : zLe (B_Mo_drop_103 mc ms Rt (zG X)) (zG X 103) :=
  (sd_vret hC dX7_drop_103)
def B_Mo_drop_97 (mc ms : Nat) (Rt : Option zAV → zMp → Prop) (g : Nat → zKT) : zKT :=
  (i_inc 2 1 (g 12))
set_option maxRecDepth 20000 in
theorem s_Mo_drop_97 {X : zMa} {mc ms : Nat} {Rt : Option zAV → zMp → Prop} (hC : zCx X RX7 cX7_drop 0 0 mc ms (none) false Rt) (hN : zNL X = 4) : zLe (B_Mo_drop_97 mc ms Rt (zG X)) (zG X 97) :=
  (sd_inc hC (by decide) (by rw [hN]; decide) dX7_drop_97 ((sd_goto hC (tgt := 12) (by decide) dX7_drop_100 (zLe_rfl))))
def B_Mo_drop_64 (mc ms : Nat) (Rt : Option zAV → zMp → Prop) (g : Nat → zKT) : zKT :=
  (i_il 3 (i_ic 5 (i_icge (B_Mo_drop_97 mc ms Rt g) (i_al 0 (i_gf 8 23 (i_ic 5 (i_il 2 (i_imul (i_il 3 (i_iadd (i_al 0 (i_gf 8 23 (i_ic 5 (i_il 2 (i_ic 1 (i_iadd (i_imul (i_il 3 (i_iadd (i_lal (i_las (i_inc 3 1 (g 64)))))))))))))))))))))))
set_option maxRecDepth 20000 in
theorem s_Mo_drop_64 {X : zMa} {mc ms : Nat} {Rt : Option zAV → zMp → Prop} (hC : zCx X RX7 cX7_drop 0 0 mc ms (none) false Rt) (hN : zNL X = 4) : zLe (B_Mo_drop_64 mc ms Rt (zG X)) (zG X 64) :=
  (sd_il_n hC rfl dX7_drop_64 ((sd_iconst hC (by decide) dX7_drop_65 ((sd_icge hC (tgt := 97) (by decide) dX7_drop_66 (s_Mo_drop_97 hC hN) ((sd_al_n hC rfl dX7_drop_69 ((sd_gf hC (ci := 8) (fk := 23) rfl wi_Mo (by decide) fl_Mo_66 (Or.inl rfl) dX7_drop_70 ((sd_iconst hC (by decide) dX7_drop_73 ((sd_il_n hC rfl dX7_drop_74 ((sd_imul hC dX7_drop_75 ((sd_il_n hC rfl dX7_drop_76 ((sd_iadd hC dX7_drop_77 ((sd_al_n hC rfl dX7_drop_78 ((sd_gf hC (ci := 8) (fk := 23) rfl wi_Mo (by decide) fl_Mo_66 (Or.inl rfl) dX7_drop_79 ((sd_iconst hC (by decide) dX7_drop_82 ((sd_il_n hC rfl dX7_drop_83 ((sd_iconst hC (by decide) dX7_drop_84 ((sd_iadd hC dX7_drop_85 ((sd_imul hC dX7_drop_86 ((sd_il_n hC rfl dX7_drop_87 ((sd_iadd hC dX7_drop_88 ((sd_lal hC dX7_drop_89 ((sd_las hC dX7_drop_90 ((sd_inc hC (by decide) (by rw [hN]; decide) dX7_drop_91 ((sd_goto hC (tgt := 64) (by decide) dX7_drop_94 (zLe_rfl))))))))))))))))))))))))))))))))))))))))))))))
def B_Mo_drop_12 (mc ms : Nat) (Rt : Option zAV → zMp → Prop) (g : Nat → zKT) : zKT :=
  (i_il 2 (i_al 0 (i_gf 8 19 (i_icge (B_Mo_drop_103 mc ms Rt g) (i_al 0 (i_gf 8 20 (i_il 2 (i_al 0 (i_gf 8 20 (i_il 2 (i_ic 1 (i_iadd (i_ial (i_ias (i_al 0 (i_gf 8 21 (i_il 2 (i_al 0 (i_gf 8 21 (i_il 2 (i_ic 1 (i_iadd (i_ial (i_ias (i_al 0 (i_gf 8 22 (i_il 2 (i_al 0 (i_gf 8 22 (i_il 2 (i_ic 1 (i_iadd (i_ial (i_ias (i_ic 0 (i_is 3 (g 64)))))))))))))))))))))))))))))))))))))
set_option maxRecDepth 20000 in
theorem s_Mo_drop_12 {X : zMa} {mc ms : Nat} {Rt : Option zAV → zMp → Prop} (hC : zCx X RX7 cX7_drop 0 0 mc ms (none) false Rt) (hN : zNL X = 4) : zLe (B_Mo_drop_12 mc ms Rt (zG X)) (zG X 12) :=
  (sd_il_n hC rfl dX7_drop_12 ((sd_al_n hC rfl dX7_drop_13 ((sd_gf hC (ci := 8) (fk := 19) rfl wi_Mo (by decide) fl_Mo_129 (Or.inl rfl) dX7_drop_14 ((sd_icge hC (tgt := 103) (by decide) dX7_drop_17 (s_Mo_drop_103 hC hN) ((sd_al_n hC rfl dX7_drop_20 ((sd_gf hC (ci := 8) (fk := 20) rfl wi_Mo (by decide) fl_Mo_57 (Or.inl rfl) dX7_drop_21 ((sd_il_n hC rfl dX7_drop_24 ((sd_al_n hC rfl dX7_drop_25 ((sd_gf hC (ci := 8) (fk := 20) rfl wi_Mo (by decide) fl_Mo_57 (Or.inl rfl) dX7_drop_26 ((sd_il_n hC rfl dX7_drop_29 ((sd_iconst hC (by decide) dX7_drop_30 ((sd_iadd hC dX7_drop_31 ((sd_ial hC dX7_drop_32 ((sd_ias hC dX7_drop_33 ((sd_al_n hC rfl dX7_drop_34 ((sd_gf hC (ci := 8) (fk := 21) rfl wi_Mo (by decide) fl_Mo_60 (Or.inl rfl) dX7_drop_35 ((sd_il_n hC rfl dX7_drop_38 ((sd_al_n hC rfl dX7_drop_39 ((sd_gf hC (ci := 8) (fk := 21) rfl wi_Mo (by decide) fl_Mo_60 (Or.inl rfl) dX7_drop_40 ((sd_il_n hC rfl dX7_drop_43 ((sd_iconst hC (by decide) dX7_drop_44 ((sd_iadd hC dX7_drop_45 ((sd_ial hC dX7_drop_46 ((sd_ias hC dX7_drop_47 ((sd_al_n hC rfl dX7_drop_48 ((sd_gf hC (ci := 8) (fk := 22) rfl wi_Mo (by decide) fl_Mo_63 (Or.inl rfl) dX7_drop_49 ((sd_il_n hC rfl dX7_drop_52 ((sd_al_n hC rfl dX7_drop_53 ((sd_gf hC (ci := 8) (fk := 22) rfl wi_Mo (by decide) fl_Mo_63 (Or.inl rfl) dX7_drop_54 ((sd_il_n hC rfl dX7_drop_57 ((sd_iconst hC (by decide) dX7_drop_58 ((sd_iadd hC dX7_drop_59 ((sd_ial hC dX7_drop_60 ((sd_ias hC dX7_drop_61 ((sd_iconst hC (by decide) dX7_drop_62 ((sd_is_n hC rfl (by rw [hN]; decide) dX7_drop_63 (zLe_rfl))))))))))))))))))))))))))))))))))))))))))))))))))))))))))))))))))))))))
def B_Mo_drop_0 (mc ms : Nat) (Rt : Option zAV → zMp → Prop) (g : Nat → zKT) : zKT :=
  (i_al 0 (i_dup (i_gf 8 19 (i_ic 1 (i_isub (i_pf 8 19 .int (i_il 1 (i_is 2 (g 12)))))))))
set_option maxRecDepth 20000 in
theorem s_Mo_drop_0 {X : zMa} {mc ms : Nat} {Rt : Option zAV → zMp → Prop} (hC : zCx X RX7 cX7_drop 0 0 mc ms (none) false Rt) (hN : zNL X = 4) : zLe (B_Mo_drop_0 mc ms Rt (zG X)) (zG X 0) :=
  (sd_al_n hC rfl dX7_drop_0 ((sd_dup hC dX7_drop_1 ((sd_gf hC (ci := 8) (fk := 19) rfl wi_Mo (by decide) fl_Mo_129 (Or.inl rfl) dX7_drop_2 ((sd_iconst hC (by decide) dX7_drop_5 ((sd_isub hC dX7_drop_6 ((sd_pf hC (ci := 8) (fk := 19) rfl wi_Mo tyX7 tyX7_ok nmX7 (by decide) fl_Mo_129 (Or.inl rfl) (Or.inl rfl) dX7_drop_7 ((sd_il_n hC rfl dX7_drop_10 ((sd_is_n hC rfl (by rw [hN]; decide) dX7_drop_11 (zLe_rfl))))))))))))))))
theorem c_Mo_drop (l : Launch) : zCT l yX7_drop cX7_drop 4 (none) 0 0 T_Mo_drop co_Mo_drop := by
  intro As M Rt hT
  obtain ⟨y, m, rfl, rfl, hm, hJ, hR⟩ := hT
  have hc := hJ.cp
  refine zMet_of false (by decide +kernel) (fun h => by first | rfl | cases h) (Nat.le_of_ble_eq_true rfl) (fun X hN hC => ?_)
  show zG X 0 [some (.inr (30, 0, 0)), some (.inl (.int (nI m))), none, none] [] (mp y) 0 0
  obtain ⟨N, hN1⟩ : ∃ N, y_ms y = N + 1 := ⟨y_ms y - 1, by omega⟩
  unfold dr at hR
  rw [hN1, Nat.add_sub_cancel] at hR
  have hz : y_cp (v_ms y N) = y_cp y ∧ y_ms (v_ms y N) = N := ⟨rfl, rfl⟩
  obtain ⟨z, hz0⟩ : ∃ z, z = v_ms y N := ⟨_, rfl⟩
  rw [← hz0] at hR hz
  have loop := upto (N := N) (P := fun k => m ≤ k → ∀ j3 : Option zAV, zG X 12 [some (.inr (30, 0, 0)), some (.inl (.int (nI m))), some (.inl (.int (nI k))), j3] [] (mp (dr_y z m k)) 0 0) (fun k hk ih hmk j3 => by
    have e1 : y_ms (dr_y z m k) = N := hz.2
    have e2 : y_cp (dr_y z m k) = y_cp y := hz.1
    have f1 : y_fr (dr_y z m k) = dr_f (y_fr z) m k := rfl
    have f2 : y_tt (dr_y z m k) = dr_f (y_tt z) m k := rfl
    have f3 : y_wh (dr_y z m k) = dr_f (y_wh z) m k := rfl
    -- the rows
    have inner : ∀ j3 : Option zAV, zG X 64 [some (.inr (30, 0, 0)), some (.inl (.int (nI m))), some (.inl (.int (nI k))), some (.inl (.int (nI 0)))] [] (mp (v_wh (v_tt (v_fr (dr_y z m k) (dr_f (y_fr z) m (k + 1))) (dr_f (y_tt z) m (k + 1))) (dr_f (y_wh z) m (k + 1)))) 0 0 := by
      intro j3
      have := five (P := fun i => zG X 64 [some (.inr (30, 0, 0)), some (.inl (.int (nI m))), some (.inl (.int (nI k))), some (.inl (.int (nI i)))] [] (mp (v_rw (v_wh (v_tt (v_fr (dr_y z m k) (dr_f (y_fr z) m (k + 1))) (dr_f (y_tt z) m (k + 1))) (dr_f (y_wh z) m (k + 1))) (dr_r (y_rw z) m (5 * k + i)))) 0 0) (fun i hi ihi => by
        refine s_Mo_drop_64 hC hN _ _ _ _ _ ?_
        have e3 : y_cp (v_rw (v_wh (v_tt (v_fr (dr_y z m k) (dr_f (y_fr z) m (k + 1))) (dr_f (y_tt z) m (k + 1))) (dr_f (y_wh z) m (k + 1))) (dr_r (y_rw z) m (5 * k + i))) = y_cp y := hz.1
        have e4 : y_rw (v_rw (v_wh (v_tt (v_fr (dr_y z m k) (dr_f (y_fr z) m (k + 1))) (dr_f (y_tt z) m (k + 1))) (dr_f (y_wh z) m (k + 1))) (dr_r (y_rw z) m (5 * k + i))) = dr_r (y_rw z) m (5 * k + i) := rfl
        simp only [B_Mo_drop_0, B_Mo_drop_12, B_Mo_drop_64, B_Mo_drop_97, B_Mo_drop_103, co_Mo_drop, i_ic, i_lc, i_nul, i_il, i_ll, i_al, i_is, i_as, i_ls, i_inc, i_iadd, i_isub, i_imul, i_iand, i_ior, i_ixor, i_idiv, i_irem, i_ishl, i_ishr, i_ladd, i_lsub, i_land, i_lor, i_i2l, i_lushr, i_lshl, i_lshr, i_lcmp, i_dup, i_pop, i_dx1, i_dup2, i_ifeq, i_ifne, i_iflt, i_ifge, i_ifgt, i_ifle, i_iceq, i_icne, i_iclt, i_icge, i_icgt, i_icle, i_ifn, i_gf, i_pf, i_ial, i_bal, i_lal, i_aal, i_ias, i_las, i_bas, i_aas, i_alen, i_newa, i_new, i_anew, i_cast, i_oi, i_call, i_callV, i_callV2, i_callI, i_iret, i_zret, i_lret, i_vret, i_aret, i_mmx, i_mmn, i_gsE, i_aceq, i_no, i_acq, i_sw, zsw, zlg, zls, znl, zfg, zcs, zsp, zrc, zisn, zft, zc1, zto, Value.category, List.set_cons_zero, List.set_cons_succ, List.length_cons, List.length_nil, Option.toList, List.append, List.nil_append, List.cons_append, true_and, and_true, Nat.add_zero, Nat.zero_le, Nat.zero_add, Nat.le_refl, Nat.reduceAdd, Nat.reduceLeDiff, co0, z0, zn_0, zn_1, zn_2, zn_3, zn_4, zn_5, zn_8, zn_12, zn_24, zn_121, zn_144, zn_256, zn_300, zn_600, zn_720, zn_1204, zn_1280, zn_2400, zn_4816, zn_14400, zn_90000, q_main, m_main, q_rw, ar_4, ar_5, ar_12, ar_300, ar_600, ar_1200, ar_10, nI_add, ar_1, ar_2, ar_3, ar_2m]
        rw [nI_clamp (by omega), nI_clamp (by omega), e4, e3]
        rw [dr_oL _ (show 5 * k + i ≤ 5 * (k + 1) + i by omega), show 5 * (k + 1) + i = 5 * k + i + 5 by omega, dr_upL _ (by omega), ← e3, mu_rw]
        refine ⟨fun h => absurd ((zK (K := 5) (by decide) (n := i) (by omega)).2.1.mp h) (by omega), fun _ => ⟨vp_in_nI (by omega) (by omega), m_k (by decide), vp_in_nI (by omega) (by omega), ihi⟩⟩) (by
        refine s_Mo_drop_64 hC hN _ _ _ _ _ ?_
        simp only [B_Mo_drop_0, B_Mo_drop_12, B_Mo_drop_64, B_Mo_drop_97, B_Mo_drop_103, co_Mo_drop, i_ic, i_lc, i_nul, i_il, i_ll, i_al, i_is, i_as, i_ls, i_inc, i_iadd, i_isub, i_imul, i_iand, i_ior, i_ixor, i_idiv, i_irem, i_ishl, i_ishr, i_ladd, i_lsub, i_land, i_lor, i_i2l, i_lushr, i_lshl, i_lshr, i_lcmp, i_dup, i_pop, i_dx1, i_dup2, i_ifeq, i_ifne, i_iflt, i_ifge, i_ifgt, i_ifle, i_iceq, i_icne, i_iclt, i_icge, i_icgt, i_icle, i_ifn, i_gf, i_pf, i_ial, i_bal, i_lal, i_aal, i_ias, i_las, i_bas, i_aas, i_alen, i_newa, i_new, i_anew, i_cast, i_oi, i_call, i_callV, i_callV2, i_callI, i_iret, i_zret, i_lret, i_vret, i_aret, i_mmx, i_mmn, i_gsE, i_aceq, i_no, i_acq, i_sw, zsw, zlg, zls, znl, zfg, zcs, zsp, zrc, zisn, zft, zc1, zto, Value.category, List.set_cons_zero, List.set_cons_succ, List.length_cons, List.length_nil, Option.toList, List.append, List.nil_append, List.cons_append, true_and, and_true, Nat.add_zero, Nat.zero_le, Nat.zero_add, Nat.le_refl, Nat.reduceAdd, Nat.reduceLeDiff, co0, z0, zn_0, zn_1, zn_2, zn_3, zn_4, zn_5, zn_8, zn_12, zn_24, zn_121, zn_144, zn_256, zn_300, zn_600, zn_720, zn_1204, zn_1280, zn_2400, zn_4816, zn_14400, zn_90000, q_main, m_main, ar_4, ar_5, ar_12, ar_300, ar_600, ar_1200, ar_10, nI_add, ar_1, ar_2, ar_3, ar_2m]
        exact ⟨fun _ => ih (by omega) _, fun h => absurd (by decide) h⟩)
      exact this
    refine s_Mo_drop_12 hC hN _ _ _ _ _ ?_
    simp only [B_Mo_drop_0, B_Mo_drop_12, B_Mo_drop_64, B_Mo_drop_97, B_Mo_drop_103, co_Mo_drop, i_ic, i_lc, i_nul, i_il, i_ll, i_al, i_is, i_as, i_ls, i_inc, i_iadd, i_isub, i_imul, i_iand, i_ior, i_ixor, i_idiv, i_irem, i_ishl, i_ishr, i_ladd, i_lsub, i_land, i_lor, i_i2l, i_lushr, i_lshl, i_lshr, i_lcmp, i_dup, i_pop, i_dx1, i_dup2, i_ifeq, i_ifne, i_iflt, i_ifge, i_ifgt, i_ifle, i_iceq, i_icne, i_iclt, i_icge, i_icgt, i_icle, i_ifn, i_gf, i_pf, i_ial, i_bal, i_lal, i_aal, i_ias, i_las, i_bas, i_aas, i_alen, i_newa, i_new, i_anew, i_cast, i_oi, i_call, i_callV, i_callV2, i_callI, i_iret, i_zret, i_lret, i_vret, i_aret, i_mmx, i_mmn, i_gsE, i_aceq, i_no, i_acq, i_sw, zsw, zlg, zls, znl, zfg, zcs, zsp, zrc, zisn, zft, zc1, zto, Value.category, List.set_cons_zero, List.set_cons_succ, List.length_cons, List.length_nil, Option.toList, List.append, List.nil_append, List.cons_append, true_and, and_true, Nat.add_zero, Nat.zero_le, Nat.zero_add, Nat.le_refl, Nat.reduceAdd, Nat.reduceLeDiff, co0, z0, zn_0, zn_1, zn_2, zn_3, zn_4, zn_5, zn_8, zn_12, zn_24, zn_121, zn_144, zn_256, zn_300, zn_600, zn_720, zn_1204, zn_1280, zn_2400, zn_4816, zn_14400, zn_90000, q_main, m_main, q_fr, ar_4, ar_5, ar_12, ar_300, ar_600, ar_1200, ar_10, nI_add, ar_1, ar_2, ar_3, ar_2m]
    rw [nI_clamp (by omega), nI_clamp (by omega), f1, dr_o _ (show k ≤ k + 1 by omega), upd_nt, dr_up _ hmk, mu_fr]
    refine ⟨fun h => absurd ((zK (K := N) (by omega) (n := k) (by omega)).2.1.mp (by rw [e1] at h; exact h)) (by omega), fun _ => ⟨vp_in_nI (by omega) (by omega), m_k (by decide), vp_in_nI (by omega) (by omega), ?_⟩⟩
    have g1 : y_cp (v_fr (dr_y z m k) (dr_f (y_fr z) m (k + 1))) = y_cp y := hz.1
    have g2 : y_tt (v_fr (dr_y z m k) (dr_f (y_fr z) m (k + 1))) = dr_f (y_tt z) m k := rfl
    simp only [i_ic, i_lc, i_nul, i_il, i_ll, i_al, i_is, i_as, i_ls, i_inc, i_iadd, i_isub, i_imul, i_iand, i_ior, i_ixor, i_idiv, i_irem, i_ishl, i_ishr, i_ladd, i_lsub, i_land, i_lor, i_i2l, i_lushr, i_lshl, i_lshr, i_lcmp, i_dup, i_pop, i_dx1, i_dup2, i_ifeq, i_ifne, i_iflt, i_ifge, i_ifgt, i_ifle, i_iceq, i_icne, i_iclt, i_icge, i_icgt, i_icle, i_ifn, i_gf, i_pf, i_ial, i_bal, i_lal, i_aal, i_ias, i_las, i_bas, i_aas, i_alen, i_newa, i_new, i_anew, i_cast, i_oi, i_call, i_callV, i_callV2, i_callI, i_iret, i_zret, i_lret, i_vret, i_aret, i_mmx, i_mmn, i_gsE, i_aceq, i_no, i_acq, i_sw, zsw, zlg, zls, znl, zfg, zcs, zsp, zrc, zisn, zft, zc1, zto, Value.category, List.set_cons_zero, List.set_cons_succ, List.length_cons, List.length_nil, Option.toList, List.append, List.nil_append, List.cons_append, true_and, and_true, Nat.add_zero, Nat.zero_le, Nat.zero_add, Nat.le_refl, Nat.reduceAdd, Nat.reduceLeDiff, co0, z0, zn_0, zn_1, zn_2, zn_3, zn_4, zn_5, zn_8, zn_12, zn_24, zn_121, zn_144, zn_256, zn_300, zn_600, zn_720, zn_1204, zn_1280, zn_2400, zn_4816, zn_14400, zn_90000, q_main, m_main, q_tt]
    rw [nI_clamp (by omega), nI_clamp (by omega), g2, dr_o _ (show k ≤ k + 1 by omega), upd_nt, dr_up _ hmk, mu_tt]
    refine ⟨vp_in_nI (by omega) (by omega), m_k (by decide), vp_in_nI (by omega) (by omega), ?_⟩
    have g3 : y_cp (v_tt (v_fr (dr_y z m k) (dr_f (y_fr z) m (k + 1))) (dr_f (y_tt z) m (k + 1))) = y_cp y := hz.1
    have g4 : y_wh (v_tt (v_fr (dr_y z m k) (dr_f (y_fr z) m (k + 1))) (dr_f (y_tt z) m (k + 1))) = dr_f (y_wh z) m k := rfl
    simp only [i_ic, i_lc, i_nul, i_il, i_ll, i_al, i_is, i_as, i_ls, i_inc, i_iadd, i_isub, i_imul, i_iand, i_ior, i_ixor, i_idiv, i_irem, i_ishl, i_ishr, i_ladd, i_lsub, i_land, i_lor, i_i2l, i_lushr, i_lshl, i_lshr, i_lcmp, i_dup, i_pop, i_dx1, i_dup2, i_ifeq, i_ifne, i_iflt, i_ifge, i_ifgt, i_ifle, i_iceq, i_icne, i_iclt, i_icge, i_icgt, i_icle, i_ifn, i_gf, i_pf, i_ial, i_bal, i_lal, i_aal, i_ias, i_las, i_bas, i_aas, i_alen, i_newa, i_new, i_anew, i_cast, i_oi, i_call, i_callV, i_callV2, i_callI, i_iret, i_zret, i_lret, i_vret, i_aret, i_mmx, i_mmn, i_gsE, i_aceq, i_no, i_acq, i_sw, zsw, zlg, zls, znl, zfg, zcs, zsp, zrc, zisn, zft, zc1, zto, Value.category, List.set_cons_zero, List.set_cons_succ, List.length_cons, List.length_nil, Option.toList, List.append, List.nil_append, List.cons_append, true_and, and_true, Nat.add_zero, Nat.zero_le, Nat.zero_add, Nat.le_refl, Nat.reduceAdd, Nat.reduceLeDiff, co0, z0, zn_0, zn_1, zn_2, zn_3, zn_4, zn_5, zn_8, zn_12, zn_24, zn_121, zn_144, zn_256, zn_300, zn_600, zn_720, zn_1204, zn_1280, zn_2400, zn_4816, zn_14400, zn_90000, q_main, m_main, q_wh]
    rw [nI_clamp (by omega), nI_clamp (by omega), g4, dr_o _ (show k ≤ k + 1 by omega), upd_va, dr_up _ hmk, mu_wh]
    refine ⟨vp_in_nI (by omega) (by omega), m_k (by decide), vp_in_nI (by omega) (by omega), ?_⟩
    exact inner none) (fun hmk j3 => by
    refine s_Mo_drop_12 hC hN _ _ _ _ _ ?_
    have e1 : y_ms (dr_y z m N) = N := hz.2
    simp only [B_Mo_drop_0, B_Mo_drop_12, B_Mo_drop_64, B_Mo_drop_97, B_Mo_drop_103, co_Mo_drop, i_ic, i_lc, i_nul, i_il, i_ll, i_al, i_is, i_as, i_ls, i_inc, i_iadd, i_isub, i_imul, i_iand, i_ior, i_ixor, i_idiv, i_irem, i_ishl, i_ishr, i_ladd, i_lsub, i_land, i_lor, i_i2l, i_lushr, i_lshl, i_lshr, i_lcmp, i_dup, i_pop, i_dx1, i_dup2, i_ifeq, i_ifne, i_iflt, i_ifge, i_ifgt, i_ifle, i_iceq, i_icne, i_iclt, i_icge, i_icgt, i_icle, i_ifn, i_gf, i_pf, i_ial, i_bal, i_lal, i_aal, i_ias, i_las, i_bas, i_aas, i_alen, i_newa, i_new, i_anew, i_cast, i_oi, i_call, i_callV, i_callV2, i_callI, i_iret, i_zret, i_lret, i_vret, i_aret, i_mmx, i_mmn, i_gsE, i_aceq, i_no, i_acq, i_sw, zsw, zlg, zls, znl, zfg, zcs, zsp, zrc, zisn, zft, zc1, zto, Value.category, List.set_cons_zero, List.set_cons_succ, List.length_cons, List.length_nil, Option.toList, List.append, List.nil_append, List.cons_append, true_and, and_true, Nat.add_zero, Nat.zero_le, Nat.zero_add, Nat.le_refl, Nat.reduceAdd, Nat.reduceLeDiff, co0, z0, zn_0, zn_1, zn_2, zn_3, zn_4, zn_5, zn_8, zn_12, zn_24, zn_121, zn_144, zn_256, zn_300, zn_600, zn_720, zn_1204, zn_1280, zn_2400, zn_4816, zn_14400, zn_90000, q_main, m_main, e1]
    exact ⟨fun _ => hR, fun h => absurd ((zK (K := N) (by omega) (n := N) (by omega)).2.1.mpr (Nat.le_refl _)) h⟩)
  refine s_Mo_drop_0 hC hN _ _ _ _ _ ?_
  simp only [B_Mo_drop_0, B_Mo_drop_12, B_Mo_drop_64, B_Mo_drop_97, B_Mo_drop_103, co_Mo_drop, i_ic, i_lc, i_nul, i_il, i_ll, i_al, i_is, i_as, i_ls, i_inc, i_iadd, i_isub, i_imul, i_iand, i_ior, i_ixor, i_idiv, i_irem, i_ishl, i_ishr, i_ladd, i_lsub, i_land, i_lor, i_i2l, i_lushr, i_lshl, i_lshr, i_lcmp, i_dup, i_pop, i_dx1, i_dup2, i_ifeq, i_ifne, i_iflt, i_ifge, i_ifgt, i_ifle, i_iceq, i_icne, i_iclt, i_icge, i_icgt, i_icle, i_ifn, i_gf, i_pf, i_ial, i_bal, i_lal, i_aal, i_ias, i_las, i_bas, i_aas, i_alen, i_newa, i_new, i_anew, i_cast, i_oi, i_call, i_callV, i_callV2, i_callI, i_iret, i_zret, i_lret, i_vret, i_aret, i_mmx, i_mmn, i_gsE, i_aceq, i_no, i_acq, i_sw, zsw, zlg, zls, znl, zfg, zcs, zsp, zrc, zisn, zft, zc1, zto, Value.category, List.set_cons_zero, List.set_cons_succ, List.length_cons, List.length_nil, Option.toList, List.append, List.nil_append, List.cons_append, true_and, and_true, Nat.add_zero, Nat.zero_le, Nat.zero_add, Nat.le_refl, Nat.reduceAdd, Nat.reduceLeDiff, co0, z0, zn_0, zn_1, zn_2, zn_3, zn_4, zn_5, zn_8, zn_12, zn_24, zn_121, zn_144, zn_256, zn_300, zn_600, zn_720, zn_1204, zn_1280, zn_2400, zn_4816, zn_14400, zn_90000, q_main, m_main]
  rw [hN1, nI_pred]
  have hl := loop m (by omega) (Nat.le_refl m) none
  rw [dr_yy, hz0, ← mu_ms] at hl
  exact ⟨m_k (by decide), by decide, hl⟩
