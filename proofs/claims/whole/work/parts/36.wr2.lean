/-! WishRoutes: questions -/
theorem fnd_c {K n : Nat} (hn : n < 2 ^ 31) (d : Int32) : (fnd K n d = none ∧ isn n d = false) ∨ ∃ k, k < n ∧ d = nI k ∧ fnd K n d = some (K, k, 0) ∧ isn n d = true := by
  cases h : isn n d with
  | false => exact Or.inl ⟨by unfold fnd; rw [h]; rfl, rfl⟩
  | true =>
    obtain ⟨k, hk, rfl⟩ := isn_t hn h
    exact Or.inr ⟨k, hk, rfl, fnd_n hn hk, rfl⟩
def T_WR_desk (As : List zAV) (M : zMp) (Rt : Option zAV → zMp → Prop) : Prop := ∃ x, As = [.inr (0, 0, 0)] ∧ M = pic x ∧ Iv x ∧ (12 ≤ x_dk x → Rt (some (.inl (.int (-8)))) M) ∧ (x_dk x < 12 → Rt (some (.inl (.int (nI (x_dk x))))) (pic (u_dk x (x_dk x + 1))))
abbrev co_WR_desk := co0
theorem dX6_desk_0 : decode cX6_desk 0 = .ok (.aload_n 0, 1) := by decide +kernel
theorem dX6_desk_1 : decode cX6_desk 1 = .ok (.getfield 53, 3) := by decide +kernel
theorem dX6_desk_4 : decode cX6_desk 4 = .ok (.bipush 12, 2) := by decide +kernel
theorem dX6_desk_6 : decode cX6_desk 6 = .ok (.if_icmp .lt 6, 3) := by decide +kernel
theorem dX6_desk_9 : decode cX6_desk 9 = .ok (.bipush (-8), 2) := by decide +kernel
theorem dX6_desk_11 : decode cX6_desk 11 = .ok (.ireturn, 1) := by decide +kernel
theorem dX6_desk_12 : decode cX6_desk 12 = .ok (.aload_n 0, 1) := by decide +kernel
theorem dX6_desk_13 : decode cX6_desk 13 = .ok (.dup, 1) := by decide +kernel
theorem dX6_desk_14 : decode cX6_desk 14 = .ok (.getfield 53, 3) := by decide +kernel
theorem dX6_desk_17 : decode cX6_desk 17 = .ok (.iconst 1, 1) := by decide +kernel
theorem dX6_desk_18 : decode cX6_desk 18 = .ok (.iadd, 1) := by decide +kernel
theorem dX6_desk_19 : decode cX6_desk 19 = .ok (.putfield 53, 3) := by decide +kernel
theorem dX6_desk_22 : decode cX6_desk 22 = .ok (.aload_n 0, 1) := by decide +kernel
theorem dX6_desk_23 : decode cX6_desk 23 = .ok (.getfield 53, 3) := by decide +kernel
theorem dX6_desk_26 : decode cX6_desk 26 = .ok (.iconst 1, 1) := by decide +kernel
theorem dX6_desk_27 : decode cX6_desk 27 = .ok (.isub, 1) := by decide +kernel
theorem dX6_desk_28 : decode cX6_desk 28 = .ok (.ireturn, 1) := by decide +kernel
def B_WR_desk_12 (mc ms : Nat) (Rt : Option zAV → zMp → Prop) (g : Nat → zKT) : zKT :=
  (i_al 0 (i_dup (i_gf 7 9 (i_ic 1 (i_iadd (i_pf 7 9 .int (i_al 0 (i_gf 7 9 (i_ic 1 (i_isub (i_iret mc ms Rt)))))))))))
set_option maxRecDepth 20000 in
theorem s_WR_desk_12 {X : zMa} {mc ms : Nat} {Rt : Option zAV → zMp → Prop} (hC : zCx X RX6 cX6_desk 0 0 mc ms (some .int) false Rt) : zLe (B_WR_desk_12 mc ms Rt (zG X)) (zG X 12) :=
  (sd_al_n hC rfl dX6_desk_12 ((sd_dup hC dX6_desk_13 ((sd_gf hC (ci := 7) (fk := 9) rfl wi_WR (by decide) fl_WR_53 (Or.inl rfl) dX6_desk_14 ((sd_iconst hC (by decide) dX6_desk_17 ((sd_iadd hC dX6_desk_18 ((sd_pf hC (ci := 7) (fk := 9) rfl wi_WR tyX6 tyX6_ok nmX6 (by decide) fl_WR_53 (Or.inl rfl) (Or.inl rfl) dX6_desk_19 ((sd_al_n hC rfl dX6_desk_22 ((sd_gf hC (ci := 7) (fk := 9) rfl wi_WR (by decide) fl_WR_53 (Or.inl rfl) dX6_desk_23 ((sd_iconst hC (by decide) dX6_desk_26 ((sd_isub hC dX6_desk_27 ((sd_iret hC dX6_desk_28)))))))))))))))))))))
def B_WR_desk_0 (mc ms : Nat) (Rt : Option zAV → zMp → Prop) (g : Nat → zKT) : zKT :=
  (i_al 0 (i_gf 7 9 (i_ic 12 (i_iclt (B_WR_desk_12 mc ms Rt g) (i_ic (-8) (i_iret mc ms Rt))))))
set_option maxRecDepth 20000 in
theorem s_WR_desk_0 {X : zMa} {mc ms : Nat} {Rt : Option zAV → zMp → Prop} (hC : zCx X RX6 cX6_desk 0 0 mc ms (some .int) false Rt) : zLe (B_WR_desk_0 mc ms Rt (zG X)) (zG X 0) :=
  (sd_al_n hC rfl dX6_desk_0 ((sd_gf hC (ci := 7) (fk := 9) rfl wi_WR (by decide) fl_WR_53 (Or.inl rfl) dX6_desk_1 ((sd_bipush hC (by decide) dX6_desk_4 ((sd_iclt hC (tgt := 12) (by decide) dX6_desk_6 (s_WR_desk_12 hC) ((sd_bipush hC (by decide) dX6_desk_9 ((sd_iret hC dX6_desk_11)))))))))))
theorem c_WR_desk (l : Launch) : zCT l yX6_desk cX6_desk 1 (some .int) 0 0 T_WR_desk co_WR_desk := by
  intro As M Rt hT
  obtain ⟨x, rfl, rfl, hI, hR0, hR1⟩ := hT
  have hd := hI.dk
  refine zMet_of false (by decide +kernel) (fun h => by first | rfl | cases h) (Nat.le_of_ble_eq_true rfl) (fun X hN hC => ?_)
  show zG X 0 [some (.inr (0, 0, 0))] [] (pic x) 0 0
  refine s_WR_desk_0 hC _ _ _ _ _ ?_
  simp only [B_WR_desk_0, B_WR_desk_12, co_WR_desk, i_ic, i_lc, i_nul, i_il, i_ll, i_al, i_is, i_as, i_ls, i_inc, i_iadd, i_isub, i_imul, i_iand, i_ior, i_ixor, i_idiv, i_irem, i_ishl, i_ishr, i_ladd, i_lsub, i_land, i_lor, i_i2l, i_lushr, i_lshl, i_lshr, i_lcmp, i_dup, i_pop, i_dx1, i_dup2, i_ifeq, i_ifne, i_iflt, i_ifge, i_ifgt, i_ifle, i_iceq, i_icne, i_iclt, i_icge, i_icgt, i_icle, i_ifn, i_gf, i_pf, i_ial, i_bal, i_lal, i_aal, i_ias, i_las, i_bas, i_aas, i_alen, i_newa, i_new, i_anew, i_cast, i_oi, i_call, i_callV, i_callV2, i_callI, i_iret, i_zret, i_lret, i_vret, i_aret, i_mmx, i_mmn, i_gsE, i_aceq, i_no, i_acq, i_sw, zsw, zlg, zls, znl, zfg, zcs, zsp, zrc, zisn, zft, zc1, zto, Value.category, List.set_cons_zero, List.set_cons_succ, List.length_cons, List.length_nil, Option.toList, List.append, List.nil_append, List.cons_append, true_and, and_true, Nat.add_zero, Nat.zero_le, Nat.zero_add, Nat.le_refl, Nat.reduceAdd, Nat.reduceLeDiff, co0, z0, zn_0, zn_1, zn_2, zn_3, zn_4, zn_5, zn_8, zn_12, zn_24, zn_121, zn_144, zn_256, zn_300, zn_600, zn_720, zn_1204, zn_1280, zn_2400, zn_4816, zn_14400, zn_90000, p_main, x_main, zup_s]
  have hK := nI_ltI (a := x_dk x) (b := 12) (by omega) (by decide)
  refine ⟨fun h => ?_, fun h => hR0 (Nat.not_lt.mp (fun z => h (hK.mpr z)))⟩
  rw [nI_1, nI_pred]
  exact ⟨m_k (by decide), by decide, zM (P := Rt _) (pu_dk x (x_dk x + 1)) (hR1 (hK.mp h))⟩
def T_WR_heard (As : List zAV) (M : zMp) (Rt : Option zAV → zMp → Prop) : Prop := ∃ x r i, As = [.inr (0, 0, 0), .inl (.int r), .inl (.int i)] ∧ M = pic x ∧ Iv x ∧ (isn (x_nr x) r = false → Rt (some (.inl (.int (-1)))) M) ∧ (∀ k, k < x_nr x → r = nI k → Rt (some (.inl (.int (if ¬ i < 0 ∧ i < nI (x_rz x k) then x_rh x k i.toNatClampNeg else -1)))) M)
abbrev co_WR_heard := co0
theorem dX6_heard_0 : decode cX6_heard 0 = .ok (.aload_n 0, 1) := by decide +kernel
theorem dX6_heard_1 : decode cX6_heard 1 = .ok (.iload_n 1, 1) := by decide +kernel
theorem dX6_heard_2 : decode cX6_heard 2 = .ok (.invokevirtual 108, 3) := by decide +kernel
theorem dX6_heard_5 : decode cX6_heard 5 = .ok (.astore_n 3, 1) := by decide +kernel
theorem dX6_heard_6 : decode cX6_heard 6 = .ok (.aload_n 3, 1) := by decide +kernel
theorem dX6_heard_7 : decode cX6_heard 7 = .ok (.ifnonnull 7, 3) := by decide +kernel
theorem dX6_heard_10 : decode cX6_heard 10 = .ok (.iconst (-1), 1) := by decide +kernel
theorem dX6_heard_11 : decode cX6_heard 11 = .ok (.goto 8, 3) := by decide +kernel
theorem dX6_heard_14 : decode cX6_heard 14 = .ok (.aload_n 3, 1) := by decide +kernel
theorem dX6_heard_15 : decode cX6_heard 15 = .ok (.iload_n 2, 1) := by decide +kernel
theorem dX6_heard_16 : decode cX6_heard 16 = .ok (.invokevirtual 194, 3) := by decide +kernel
theorem dX6_heard_19 : decode cX6_heard 19 = .ok (.ireturn, 1) := by decide +kernel
def B_WR_heard_19 (mc ms : Nat) (Rt : Option zAV → zMp → Prop) (g : Nat → zKT) : zKT :=
  (i_iret mc ms Rt)
set_option maxRecDepth 20000 in
theorem s_WR_heard_19 {X : zMa} {mc ms : Nat} {Rt : Option zAV → zMp → Prop} (hC : zCx X RX6 cX6_heard 4 85 mc ms (some .int) false Rt) (hN : zNL X = 4) : zLe (B_WR_heard_19 mc ms Rt (zG X)) (zG X 19) :=
  (sd_iret hC dX6_heard_19)
def B_WR_heard_14 (mc ms : Nat) (Rt : Option zAV → zMp → Prop) (g : Nat → zKT) : zKT :=
  (i_al 3 (i_il 2 (i_callV mc ms 4 2 T_Rdr_nthHeard co_Rdr_nthHeard (B_WR_heard_19 mc ms Rt g))))
set_option maxRecDepth 20000 in
theorem s_WR_heard_14 {X : zMa} {mc ms : Nat} {Rt : Option zAV → zMp → Prop} (hC : zCx X RX6 cX6_heard 4 85 mc ms (some .int) false Rt) (hN : zNL X = 4) : zLe (B_WR_heard_14 mc ms Rt (zG X)) (zG X 14) :=
  (sd_al_n hC rfl dX6_heard_14 ((sd_il_n hC rfl dX6_heard_15 ((sd_cV hC c_Rdr_nthHeard yv_Rdr_nthHeard (ci := 4) rfl rfl ml_WR_194 (by decide) (by decide) dX6_heard_16 (s_WR_heard_19 hC hN))))))
def B_WR_heard_0 (mc ms : Nat) (Rt : Option zAV → zMp → Prop) (g : Nat → zKT) : zKT :=
  (i_al 0 (i_il 1 (i_callV mc ms 7 2 T_WR_findReader co_WR_findReader (i_as 3 (i_al 3 (i_ifn (i_ic (-1) (B_WR_heard_19 mc ms Rt g)) (B_WR_heard_14 mc ms Rt g)))))))
set_option maxRecDepth 20000 in
theorem s_WR_heard_0 {X : zMa} {mc ms : Nat} {Rt : Option zAV → zMp → Prop} (hC : zCx X RX6 cX6_heard 4 85 mc ms (some .int) false Rt) (hN : zNL X = 4) : zLe (B_WR_heard_0 mc ms Rt (zG X)) (zG X 0) :=
  (sd_al_n hC rfl dX6_heard_0 ((sd_il_n hC rfl dX6_heard_1 ((sd_cV hC c_WR_findReader yv_WR_findReader (ci := 7) rfl rfl ml_WR_108 (by decide) (by decide) dX6_heard_2 ((sd_as_n hC rfl (by rw [hN]; decide) dX6_heard_5 ((sd_al_n hC rfl dX6_heard_6 ((sd_ifnonnull hC (tgt := 14) (by decide) dX6_heard_7 (s_WR_heard_14 hC hN) ((sd_iconst hC (by decide) dX6_heard_10 ((sd_goto hC (tgt := 19) (by decide) dX6_heard_11 (s_WR_heard_19 hC hN))))))))))))))))
theorem c_WR_heard (l : Launch) : zCT l yX6_heard cX6_heard 4 (some .int) 4 85 T_WR_heard co_WR_heard := by
  intro As M Rt hT
  obtain ⟨x, r, i, rfl, rfl, hI, hR0, hR1⟩ := hT
  refine zMet_of false (by decide +kernel) (fun h => by first | rfl | cases h) (Nat.le_of_ble_eq_true rfl) (fun X hN hC => ?_)
  show zG X 0 [some (.inr (0, 0, 0)), some (.inl (.int r)), some (.inl (.int i)), none] [] (pic x) 0 0
  refine s_WR_heard_0 hC hN _ _ _ _ _ ?_
  simp only [B_WR_heard_0, B_WR_heard_14, B_WR_heard_19, co_Rdr_nthHeard, co_WR_findReader, co_WR_heard, i_ic, i_lc, i_nul, i_il, i_ll, i_al, i_is, i_as, i_ls, i_inc, i_iadd, i_isub, i_imul, i_iand, i_ior, i_ixor, i_idiv, i_irem, i_ishl, i_ishr, i_ladd, i_lsub, i_land, i_lor, i_i2l, i_lushr, i_lshl, i_lshr, i_lcmp, i_dup, i_pop, i_dx1, i_dup2, i_ifeq, i_ifne, i_iflt, i_ifge, i_ifgt, i_ifle, i_iceq, i_icne, i_iclt, i_icge, i_icgt, i_icle, i_ifn, i_gf, i_pf, i_ial, i_bal, i_lal, i_aal, i_ias, i_las, i_bas, i_aas, i_alen, i_newa, i_new, i_anew, i_cast, i_oi, i_call, i_callV, i_callV2, i_callI, i_iret, i_zret, i_lret, i_vret, i_aret, i_mmx, i_mmn, i_gsE, i_aceq, i_no, i_acq, i_sw, zsw, zlg, zls, znl, zfg, zcs, zsp, zrc, zisn, zft, zc1, zto, Value.category, List.set_cons_zero, List.set_cons_succ, List.length_cons, List.length_nil, Option.toList, List.append, List.nil_append, List.cons_append, true_and, and_true, Nat.add_zero, Nat.zero_le, Nat.zero_add, Nat.le_refl, Nat.reduceAdd, Nat.reduceLeDiff, co0, z0, zn_0, zn_1, zn_2, zn_3, zn_4, zn_5, zn_8, zn_12, zn_24, zn_121, zn_144, zn_256, zn_300, zn_600, zn_720, zn_1204, zn_1280, zn_2400, zn_4816, zn_14400, zn_90000, p_main, x_main]
  refine ⟨x, r, rfl, rfl, hI, ?_⟩
  rcases fnd_c (K := 10) (n := x_nr x) (by have := hI.lim; omega) r with ⟨e, e2⟩ | ⟨k, hk, rfl, e, -⟩
  · rw [e]
    simp only [zov, i_ic, i_lc, i_nul, i_il, i_ll, i_al, i_is, i_as, i_ls, i_inc, i_iadd, i_isub, i_imul, i_iand, i_ior, i_ixor, i_idiv, i_irem, i_ishl, i_ishr, i_ladd, i_lsub, i_land, i_lor, i_i2l, i_lushr, i_lshl, i_lshr, i_lcmp, i_dup, i_pop, i_dx1, i_dup2, i_ifeq, i_ifne, i_iflt, i_ifge, i_ifgt, i_ifle, i_iceq, i_icne, i_iclt, i_icge, i_icgt, i_icle, i_ifn, i_gf, i_pf, i_ial, i_bal, i_lal, i_aal, i_ias, i_las, i_bas, i_aas, i_alen, i_newa, i_new, i_anew, i_cast, i_oi, i_call, i_callV, i_callV2, i_callI, i_iret, i_zret, i_lret, i_vret, i_aret, i_mmx, i_mmn, i_gsE, i_aceq, i_no, i_acq, i_sw, zsw, zlg, zls, znl, zfg, zcs, zsp, zrc, zisn, zft, zc1, zto, Value.category, List.set_cons_zero, List.set_cons_succ, List.length_cons, List.length_nil, Option.toList, List.append, List.nil_append, List.cons_append, true_and, and_true, Nat.add_zero, Nat.zero_le, Nat.zero_add, Nat.le_refl, Nat.reduceAdd, Nat.reduceLeDiff, co0, z0, zn_0, zn_1, zn_2, zn_3, zn_4, zn_5, zn_8, zn_12, zn_24, zn_121, zn_144, zn_256, zn_300, zn_600, zn_720, zn_1204, zn_1280, zn_2400, zn_4816, zn_14400, zn_90000]
    exact hR0 e2
  · rw [e]
    have hk' : k < x_or x := Nat.lt_of_lt_of_le hk hI.cnt.1
    simp only [zov, p_rdr hk', x_rdr, i_ic, i_lc, i_nul, i_il, i_ll, i_al, i_is, i_as, i_ls, i_inc, i_iadd, i_isub, i_imul, i_iand, i_ior, i_ixor, i_idiv, i_irem, i_ishl, i_ishr, i_ladd, i_lsub, i_land, i_lor, i_i2l, i_lushr, i_lshl, i_lshr, i_lcmp, i_dup, i_pop, i_dx1, i_dup2, i_ifeq, i_ifne, i_iflt, i_ifge, i_ifgt, i_ifle, i_iceq, i_icne, i_iclt, i_icge, i_icgt, i_icle, i_ifn, i_gf, i_pf, i_ial, i_bal, i_lal, i_aal, i_ias, i_las, i_bas, i_aas, i_alen, i_newa, i_new, i_anew, i_cast, i_oi, i_call, i_callV, i_callV2, i_callI, i_iret, i_zret, i_lret, i_vret, i_aret, i_mmx, i_mmn, i_gsE, i_aceq, i_no, i_acq, i_sw, zsw, zlg, zls, znl, zfg, zcs, zsp, zrc, zisn, zft, zc1, zto, Value.category, List.set_cons_zero, List.set_cons_succ, List.length_cons, List.length_nil, Option.toList, List.append, List.nil_append, List.cons_append, true_and, and_true, Nat.add_zero, Nat.zero_le, Nat.zero_add, Nat.le_refl, Nat.reduceAdd, Nat.reduceLeDiff, co0, z0, zn_0, zn_1, zn_2, zn_3, zn_4, zn_5, zn_8, zn_12, zn_24, zn_121, zn_144, zn_256, zn_300, zn_600, zn_720, zn_1204, zn_1280, zn_2400, zn_4816, zn_14400, zn_90000]
    exact ⟨x, k, i, rfl, rfl, hk', (hI.rdr k hk').1, hR1 k hk rfl⟩
theorem lnF_c {x : zSt} (hI : Iv x) (u v : Int32) : lnF x u v = none ∨ ∃ l, lnF x u v = some l ∧ ln_ok x l := by
  cases h : lnF x u v with
  | none => exact Or.inl rfl
  | some l =>
    refine Or.inr ⟨l, rfl, ?_⟩
    unfold lnF at h
    split at h
    · have hl := hI.ln _ _ h
      exact ⟨hl, hI.lan l hl⟩
    · cases h
def T_WR_table (As : List zAV) (M : zMp) (Rt : Option zAV → zMp → Prop) : Prop := ∃ x u v i, As = [.inr (0, 0, 0), .inl (.int u), .inl (.int v), .inl (.int i)] ∧ M = pic x ∧ Iv x ∧ (lnF x v u = none → Rt (some (.inl (.int (-1)))) M) ∧ (∀ l, lnF x v u = some l → Rt (some (.inl (.int (rw_nthA (x_lb x l) i 300 0 0)))) M)
abbrev co_WR_table := co0
theorem dX6_table_0 : decode cX6_table 0 = .ok (.aload_n 0, 1) := by decide +kernel
theorem dX6_table_1 : decode cX6_table 1 = .ok (.iload_n 2, 1) := by decide +kernel
theorem dX6_table_2 : decode cX6_table 2 = .ok (.iload_n 1, 1) := by decide +kernel
theorem dX6_table_3 : decode cX6_table 3 = .ok (.invokevirtual 89, 3) := by decide +kernel
theorem dX6_table_6 : decode cX6_table 6 = .ok (.astore 4, 2) := by decide +kernel
theorem dX6_table_8 : decode cX6_table 8 = .ok (.aload 4, 2) := by decide +kernel
theorem dX6_table_10 : decode cX6_table 10 = .ok (.ifnonnull 7, 3) := by decide +kernel
theorem dX6_table_13 : decode cX6_table 13 = .ok (.iconst (-1), 1) := by decide +kernel
theorem dX6_table_14 : decode cX6_table 14 = .ok (.goto 12, 3) := by decide +kernel
theorem dX6_table_17 : decode cX6_table 17 = .ok (.aload 4, 2) := by decide +kernel
theorem dX6_table_19 : decode cX6_table 19 = .ok (.getfield 181, 3) := by decide +kernel
theorem dX6_table_22 : decode cX6_table 22 = .ok (.iload_n 3, 1) := by decide +kernel
theorem dX6_table_23 : decode cX6_table 23 = .ok (.invokevirtual 184, 3) := by decide +kernel
theorem dX6_table_26 : decode cX6_table 26 = .ok (.ireturn, 1) := by decide +kernel
def B_WR_table_26 (mc ms : Nat) (Rt : Option zAV → zMp → Prop) (g : Nat → zKT) : zKT :=
  (i_iret mc ms Rt)
set_option maxRecDepth 20000 in
theorem s_WR_table_26 {X : zMa} {mc ms : Nat} {Rt : Option zAV → zMp → Prop} (hC : zCx X RX6 cX6_table 2 44 mc ms (some .int) false Rt) (hN : zNL X = 5) : zLe (B_WR_table_26 mc ms Rt (zG X)) (zG X 26) :=
  (sd_iret hC dX6_table_26)
def B_WR_table_17 (mc ms : Nat) (Rt : Option zAV → zMp → Prop) (g : Nat → zKT) : zKT :=
  (i_al 4 (i_gf 2 1 (i_il 3 (i_callV mc ms 5 2 T_Row_nth co_Row_nth (B_WR_table_26 mc ms Rt g)))))
set_option maxRecDepth 20000 in
theorem s_WR_table_17 {X : zMa} {mc ms : Nat} {Rt : Option zAV → zMp → Prop} (hC : zCx X RX6 cX6_table 2 44 mc ms (some .int) false Rt) (hN : zNL X = 5) : zLe (B_WR_table_17 mc ms Rt (zG X)) (zG X 17) :=
  (sd_al hC dX6_table_17 ((sd_gf hC (ci := 2) (fk := 1) rfl wi_Lane (by decide) fl_WR_181 (Or.inl rfl) dX6_table_19 ((sd_il_n hC rfl dX6_table_22 ((sd_cV hC c_Row_nth yv_Row_nth (ci := 5) rfl rfl ml_WR_184 (by decide) (by decide) dX6_table_23 (s_WR_table_26 hC hN))))))))
def B_WR_table_0 (mc ms : Nat) (Rt : Option zAV → zMp → Prop) (g : Nat → zKT) : zKT :=
  (i_al 0 (i_il 2 (i_il 1 (i_callV mc ms 7 3 T_WR_laneFrom co_WR_laneFrom (i_as 4 (i_al 4 (i_ifn (i_ic (-1) (B_WR_table_26 mc ms Rt g)) (B_WR_table_17 mc ms Rt g))))))))
set_option maxRecDepth 20000 in
theorem s_WR_table_0 {X : zMa} {mc ms : Nat} {Rt : Option zAV → zMp → Prop} (hC : zCx X RX6 cX6_table 2 44 mc ms (some .int) false Rt) (hN : zNL X = 5) : zLe (B_WR_table_0 mc ms Rt (zG X)) (zG X 0) :=
  (sd_al_n hC rfl dX6_table_0 ((sd_il_n hC rfl dX6_table_1 ((sd_il_n hC rfl dX6_table_2 ((sd_cV hC c_WR_laneFrom yv_WR_laneFrom (ci := 7) rfl rfl ml_WR_89 (by decide) (by decide) dX6_table_3 ((sd_as hC (by rw [hN]; decide) dX6_table_6 ((sd_al hC dX6_table_8 ((sd_ifnonnull hC (tgt := 17) (by decide) dX6_table_10 (s_WR_table_17 hC hN) ((sd_iconst hC (by decide) dX6_table_13 ((sd_goto hC (tgt := 26) (by decide) dX6_table_14 (s_WR_table_26 hC hN))))))))))))))))))
theorem c_WR_table (l : Launch) : zCT l yX6_table cX6_table 5 (some .int) 2 44 T_WR_table co_WR_table := by
  intro As M Rt hT
  obtain ⟨x, u, v, i, rfl, rfl, hI, hR0, hR1⟩ := hT
  refine zMet_of false (by decide +kernel) (fun h => by first | rfl | cases h) (Nat.le_of_ble_eq_true rfl) (fun X hN hC => ?_)
  show zG X 0 [some (.inr (0, 0, 0)), some (.inl (.int u)), some (.inl (.int v)), some (.inl (.int i)), none] [] (pic x) 0 0
  refine s_WR_table_0 hC hN _ _ _ _ _ ?_
  simp only [B_WR_table_0, B_WR_table_17, B_WR_table_26, co_Row_nth, co_WR_laneFrom, co_WR_table, i_ic, i_lc, i_nul, i_il, i_ll, i_al, i_is, i_as, i_ls, i_inc, i_iadd, i_isub, i_imul, i_iand, i_ior, i_ixor, i_idiv, i_irem, i_ishl, i_ishr, i_ladd, i_lsub, i_land, i_lor, i_i2l, i_lushr, i_lshl, i_lshr, i_lcmp, i_dup, i_pop, i_dx1, i_dup2, i_ifeq, i_ifne, i_iflt, i_ifge, i_ifgt, i_ifle, i_iceq, i_icne, i_iclt, i_icge, i_icgt, i_icle, i_ifn, i_gf, i_pf, i_ial, i_bal, i_lal, i_aal, i_ias, i_las, i_bas, i_aas, i_alen, i_newa, i_new, i_anew, i_cast, i_oi, i_call, i_callV, i_callV2, i_callI, i_iret, i_zret, i_lret, i_vret, i_aret, i_mmx, i_mmn, i_gsE, i_aceq, i_no, i_acq, i_sw, zsw, zlg, zls, znl, zfg, zcs, zsp, zrc, zisn, zft, zc1, zto, Value.category, List.set_cons_zero, List.set_cons_succ, List.length_cons, List.length_nil, Option.toList, List.append, List.nil_append, List.cons_append, true_and, and_true, Nat.add_zero, Nat.zero_le, Nat.zero_add, Nat.le_refl, Nat.reduceAdd, Nat.reduceLeDiff, co0, z0, zn_0, zn_1, zn_2, zn_3, zn_4, zn_5, zn_8, zn_12, zn_24, zn_121, zn_144, zn_256, zn_300, zn_600, zn_720, zn_1204, zn_1280, zn_2400, zn_4816, zn_14400, zn_90000, p_main, x_main]
  refine ⟨x, v, u, rfl, rfl, hI.dk, ?_⟩
  rcases lnF_c hI v u with e | ⟨l, e, hok⟩
  · rw [e]
    simp only [zln, Option.map_none, zov, i_ic, i_lc, i_nul, i_il, i_ll, i_al, i_is, i_as, i_ls, i_inc, i_iadd, i_isub, i_imul, i_iand, i_ior, i_ixor, i_idiv, i_irem, i_ishl, i_ishr, i_ladd, i_lsub, i_land, i_lor, i_i2l, i_lushr, i_lshl, i_lshr, i_lcmp, i_dup, i_pop, i_dx1, i_dup2, i_ifeq, i_ifne, i_iflt, i_ifge, i_ifgt, i_ifle, i_iceq, i_icne, i_iclt, i_icge, i_icgt, i_icle, i_ifn, i_gf, i_pf, i_ial, i_bal, i_lal, i_aal, i_ias, i_las, i_bas, i_aas, i_alen, i_newa, i_new, i_anew, i_cast, i_oi, i_call, i_callV, i_callV2, i_callI, i_iret, i_zret, i_lret, i_vret, i_aret, i_mmx, i_mmn, i_gsE, i_aceq, i_no, i_acq, i_sw, zsw, zlg, zls, znl, zfg, zcs, zsp, zrc, zisn, zft, zc1, zto, Value.category, List.set_cons_zero, List.set_cons_succ, List.length_cons, List.length_nil, Option.toList, List.append, List.nil_append, List.cons_append, true_and, and_true, Nat.add_zero, Nat.zero_le, Nat.zero_add, Nat.le_refl, Nat.reduceAdd, Nat.reduceLeDiff, co0, z0, zn_0, zn_1, zn_2, zn_3, zn_4, zn_5, zn_8, zn_12, zn_24, zn_121, zn_144, zn_256, zn_300, zn_600, zn_720, zn_1204, zn_1280, zn_2400, zn_4816, zn_14400, zn_90000]
    exact hR0 e
  · rw [e]
    simp only [zln, Option.map_some, zov, p_lane hok.1, x_lane, p_rowO (r_lb hok.1), i_ic, i_lc, i_nul, i_il, i_ll, i_al, i_is, i_as, i_ls, i_inc, i_iadd, i_isub, i_imul, i_iand, i_ior, i_ixor, i_idiv, i_irem, i_ishl, i_ishr, i_ladd, i_lsub, i_land, i_lor, i_i2l, i_lushr, i_lshl, i_lshr, i_lcmp, i_dup, i_pop, i_dx1, i_dup2, i_ifeq, i_ifne, i_iflt, i_ifge, i_ifgt, i_ifle, i_iceq, i_icne, i_iclt, i_icge, i_icgt, i_icle, i_ifn, i_gf, i_pf, i_ial, i_bal, i_lal, i_aal, i_ias, i_las, i_bas, i_aas, i_alen, i_newa, i_new, i_anew, i_cast, i_oi, i_call, i_callV, i_callV2, i_callI, i_iret, i_zret, i_lret, i_vret, i_aret, i_mmx, i_mmn, i_gsE, i_aceq, i_no, i_acq, i_sw, zsw, zlg, zls, znl, zfg, zcs, zsp, zrc, zisn, zft, zc1, zto, Value.category, List.set_cons_zero, List.set_cons_succ, List.length_cons, List.length_nil, Option.toList, List.append, List.nil_append, List.cons_append, true_and, and_true, Nat.add_zero, Nat.zero_le, Nat.zero_add, Nat.le_refl, Nat.reduceAdd, Nat.reduceLeDiff, co0, z0, zn_0, zn_1, zn_2, zn_3, zn_4, zn_5, zn_8, zn_12, zn_24, zn_121, zn_144, zn_256, zn_300, zn_600, zn_720, zn_1204, zn_1280, zn_2400, zn_4816, zn_14400, zn_90000]
    exact ⟨(5, 3, l), (6, 3, l), x_lb x l, i, rfl, p_row (r_lb hok.1), hR1 l e⟩
def T_WR_told (As : List zAV) (M : zMp) (Rt : Option zAV → zMp → Prop) : Prop := ∃ x u v i, As = [.inr (0, 0, 0), .inl (.int u), .inl (.int v), .inl (.int i)] ∧ M = pic x ∧ Iv x ∧ (lnF x u v = none → Rt (some (.inl (.int (-1)))) M) ∧ (∀ l, lnF x u v = some l → Rt (some (.inl (.int (rw_nthA (x_lt x l) i 300 0 0)))) M)
abbrev co_WR_told := co0
theorem dX6_told_0 : decode cX6_told 0 = .ok (.aload_n 0, 1) := by decide +kernel
theorem dX6_told_1 : decode cX6_told 1 = .ok (.iload_n 1, 1) := by decide +kernel
theorem dX6_told_2 : decode cX6_told 2 = .ok (.iload_n 2, 1) := by decide +kernel
theorem dX6_told_3 : decode cX6_told 3 = .ok (.invokevirtual 89, 3) := by decide +kernel
theorem dX6_told_6 : decode cX6_told 6 = .ok (.astore 4, 2) := by decide +kernel
theorem dX6_told_8 : decode cX6_told 8 = .ok (.aload 4, 2) := by decide +kernel
theorem dX6_told_10 : decode cX6_told 10 = .ok (.ifnonnull 7, 3) := by decide +kernel
theorem dX6_told_13 : decode cX6_told 13 = .ok (.iconst (-1), 1) := by decide +kernel
theorem dX6_told_14 : decode cX6_told 14 = .ok (.goto 12, 3) := by decide +kernel
theorem dX6_told_17 : decode cX6_told 17 = .ok (.aload 4, 2) := by decide +kernel
theorem dX6_told_19 : decode cX6_told 19 = .ok (.getfield 188, 3) := by decide +kernel
theorem dX6_told_22 : decode cX6_told 22 = .ok (.iload_n 3, 1) := by decide +kernel
theorem dX6_told_23 : decode cX6_told 23 = .ok (.invokevirtual 184, 3) := by decide +kernel
theorem dX6_told_26 : decode cX6_told 26 = .ok (.ireturn, 1) := by decide +kernel
def B_WR_told_26 (mc ms : Nat) (Rt : Option zAV → zMp → Prop) (g : Nat → zKT) : zKT :=
  (i_iret mc ms Rt)
set_option maxRecDepth 20000 in
theorem s_WR_told_26 {X : zMa} {mc ms : Nat} {Rt : Option zAV → zMp → Prop} (hC : zCx X RX6 cX6_told 2 44 mc ms (some .int) false Rt) (hN : zNL X = 5) : zLe (B_WR_told_26 mc ms Rt (zG X)) (zG X 26) :=
  (sd_iret hC dX6_told_26)
def B_WR_told_17 (mc ms : Nat) (Rt : Option zAV → zMp → Prop) (g : Nat → zKT) : zKT :=
  (i_al 4 (i_gf 2 0 (i_il 3 (i_callV mc ms 5 2 T_Row_nth co_Row_nth (B_WR_told_26 mc ms Rt g)))))
set_option maxRecDepth 20000 in
theorem s_WR_told_17 {X : zMa} {mc ms : Nat} {Rt : Option zAV → zMp → Prop} (hC : zCx X RX6 cX6_told 2 44 mc ms (some .int) false Rt) (hN : zNL X = 5) : zLe (B_WR_told_17 mc ms Rt (zG X)) (zG X 17) :=
  (sd_al hC dX6_told_17 ((sd_gf hC (ci := 2) (fk := 0) rfl wi_Lane (by decide) fl_WR_188 (Or.inl rfl) dX6_told_19 ((sd_il_n hC rfl dX6_told_22 ((sd_cV hC c_Row_nth yv_Row_nth (ci := 5) rfl rfl ml_WR_184 (by decide) (by decide) dX6_told_23 (s_WR_told_26 hC hN))))))))
def B_WR_told_0 (mc ms : Nat) (Rt : Option zAV → zMp → Prop) (g : Nat → zKT) : zKT :=
  (i_al 0 (i_il 1 (i_il 2 (i_callV mc ms 7 3 T_WR_laneFrom co_WR_laneFrom (i_as 4 (i_al 4 (i_ifn (i_ic (-1) (B_WR_told_26 mc ms Rt g)) (B_WR_told_17 mc ms Rt g))))))))
set_option maxRecDepth 20000 in
theorem s_WR_told_0 {X : zMa} {mc ms : Nat} {Rt : Option zAV → zMp → Prop} (hC : zCx X RX6 cX6_told 2 44 mc ms (some .int) false Rt) (hN : zNL X = 5) : zLe (B_WR_told_0 mc ms Rt (zG X)) (zG X 0) :=
  (sd_al_n hC rfl dX6_told_0 ((sd_il_n hC rfl dX6_told_1 ((sd_il_n hC rfl dX6_told_2 ((sd_cV hC c_WR_laneFrom yv_WR_laneFrom (ci := 7) rfl rfl ml_WR_89 (by decide) (by decide) dX6_told_3 ((sd_as hC (by rw [hN]; decide) dX6_told_6 ((sd_al hC dX6_told_8 ((sd_ifnonnull hC (tgt := 17) (by decide) dX6_told_10 (s_WR_told_17 hC hN) ((sd_iconst hC (by decide) dX6_told_13 ((sd_goto hC (tgt := 26) (by decide) dX6_told_14 (s_WR_told_26 hC hN))))))))))))))))))
theorem c_WR_told (l : Launch) : zCT l yX6_told cX6_told 5 (some .int) 2 44 T_WR_told co_WR_told := by
  intro As M Rt hT
  obtain ⟨x, u, v, i, rfl, rfl, hI, hR0, hR1⟩ := hT
  refine zMet_of false (by decide +kernel) (fun h => by first | rfl | cases h) (Nat.le_of_ble_eq_true rfl) (fun X hN hC => ?_)
  show zG X 0 [some (.inr (0, 0, 0)), some (.inl (.int u)), some (.inl (.int v)), some (.inl (.int i)), none] [] (pic x) 0 0
  refine s_WR_told_0 hC hN _ _ _ _ _ ?_
  simp only [B_WR_told_0, B_WR_told_17, B_WR_told_26, co_Row_nth, co_WR_laneFrom, co_WR_told, i_ic, i_lc, i_nul, i_il, i_ll, i_al, i_is, i_as, i_ls, i_inc, i_iadd, i_isub, i_imul, i_iand, i_ior, i_ixor, i_idiv, i_irem, i_ishl, i_ishr, i_ladd, i_lsub, i_land, i_lor, i_i2l, i_lushr, i_lshl, i_lshr, i_lcmp, i_dup, i_pop, i_dx1, i_dup2, i_ifeq, i_ifne, i_iflt, i_ifge, i_ifgt, i_ifle, i_iceq, i_icne, i_iclt, i_icge, i_icgt, i_icle, i_ifn, i_gf, i_pf, i_ial, i_bal, i_lal, i_aal, i_ias, i_las, i_bas, i_aas, i_alen, i_newa, i_new, i_anew, i_cast, i_oi, i_call, i_callV, i_callV2, i_callI, i_iret, i_zret, i_lret, i_vret, i_aret, i_mmx, i_mmn, i_gsE, i_aceq, i_no, i_acq, i_sw, zsw, zlg, zls, znl, zfg, zcs, zsp, zrc, zisn, zft, zc1, zto, Value.category, List.set_cons_zero, List.set_cons_succ, List.length_cons, List.length_nil, Option.toList, List.append, List.nil_append, List.cons_append, true_and, and_true, Nat.add_zero, Nat.zero_le, Nat.zero_add, Nat.le_refl, Nat.reduceAdd, Nat.reduceLeDiff, co0, z0, zn_0, zn_1, zn_2, zn_3, zn_4, zn_5, zn_8, zn_12, zn_24, zn_121, zn_144, zn_256, zn_300, zn_600, zn_720, zn_1204, zn_1280, zn_2400, zn_4816, zn_14400, zn_90000, p_main, x_main]
  refine ⟨x, u, v, rfl, rfl, hI.dk, ?_⟩
  rcases lnF_c hI u v with e | ⟨l, e, hok⟩
  · rw [e]
    simp only [zln, Option.map_none, zov, i_ic, i_lc, i_nul, i_il, i_ll, i_al, i_is, i_as, i_ls, i_inc, i_iadd, i_isub, i_imul, i_iand, i_ior, i_ixor, i_idiv, i_irem, i_ishl, i_ishr, i_ladd, i_lsub, i_land, i_lor, i_i2l, i_lushr, i_lshl, i_lshr, i_lcmp, i_dup, i_pop, i_dx1, i_dup2, i_ifeq, i_ifne, i_iflt, i_ifge, i_ifgt, i_ifle, i_iceq, i_icne, i_iclt, i_icge, i_icgt, i_icle, i_ifn, i_gf, i_pf, i_ial, i_bal, i_lal, i_aal, i_ias, i_las, i_bas, i_aas, i_alen, i_newa, i_new, i_anew, i_cast, i_oi, i_call, i_callV, i_callV2, i_callI, i_iret, i_zret, i_lret, i_vret, i_aret, i_mmx, i_mmn, i_gsE, i_aceq, i_no, i_acq, i_sw, zsw, zlg, zls, znl, zfg, zcs, zsp, zrc, zisn, zft, zc1, zto, Value.category, List.set_cons_zero, List.set_cons_succ, List.length_cons, List.length_nil, Option.toList, List.append, List.nil_append, List.cons_append, true_and, and_true, Nat.add_zero, Nat.zero_le, Nat.zero_add, Nat.le_refl, Nat.reduceAdd, Nat.reduceLeDiff, co0, z0, zn_0, zn_1, zn_2, zn_3, zn_4, zn_5, zn_8, zn_12, zn_24, zn_121, zn_144, zn_256, zn_300, zn_600, zn_720, zn_1204, zn_1280, zn_2400, zn_4816, zn_14400, zn_90000]
    exact hR0 e
  · rw [e]
    simp only [zln, Option.map_some, zov, p_lane hok.1, x_lane, p_rowO (r_lt hok.1), i_ic, i_lc, i_nul, i_il, i_ll, i_al, i_is, i_as, i_ls, i_inc, i_iadd, i_isub, i_imul, i_iand, i_ior, i_ixor, i_idiv, i_irem, i_ishl, i_ishr, i_ladd, i_lsub, i_land, i_lor, i_i2l, i_lushr, i_lshl, i_lshr, i_lcmp, i_dup, i_pop, i_dx1, i_dup2, i_ifeq, i_ifne, i_iflt, i_ifge, i_ifgt, i_ifle, i_iceq, i_icne, i_iclt, i_icge, i_icgt, i_icle, i_ifn, i_gf, i_pf, i_ial, i_bal, i_lal, i_aal, i_ias, i_las, i_bas, i_aas, i_alen, i_newa, i_new, i_anew, i_cast, i_oi, i_call, i_callV, i_callV2, i_callI, i_iret, i_zret, i_lret, i_vret, i_aret, i_mmx, i_mmn, i_gsE, i_aceq, i_no, i_acq, i_sw, zsw, zlg, zls, znl, zfg, zcs, zsp, zrc, zisn, zft, zc1, zto, Value.category, List.set_cons_zero, List.set_cons_succ, List.length_cons, List.length_nil, Option.toList, List.append, List.nil_append, List.cons_append, true_and, and_true, Nat.add_zero, Nat.zero_le, Nat.zero_add, Nat.le_refl, Nat.reduceAdd, Nat.reduceLeDiff, co0, z0, zn_0, zn_1, zn_2, zn_3, zn_4, zn_5, zn_8, zn_12, zn_24, zn_121, zn_144, zn_256, zn_300, zn_600, zn_720, zn_1204, zn_1280, zn_2400, zn_4816, zn_14400, zn_90000]
    exact ⟨(5, 2, l), (6, 2, l), x_lt x l, i, rfl, p_row (r_lt hok.1), hR1 l e⟩
def T_WR_message (As : List zAV) (M : zMp) (Rt : Option zAV → zMp → Prop) : Prop := ∃ x u v i, As = [.inr (0, 0, 0), .inl (.int u), .inl (.int v), .inl (.int i)] ∧ M = pic x ∧ Iv x ∧ (lnF x u v = none → Rt (some (.inl (.int (-1)))) M) ∧ (∀ l, lnF x u v = some l → Rt (some (.inl (.int (la_item x l i)))) M)
abbrev co_WR_message := co0
theorem dX6_message_0 : decode cX6_message 0 = .ok (.aload_n 0, 1) := by decide +kernel
theorem dX6_message_1 : decode cX6_message 1 = .ok (.iload_n 1, 1) := by decide +kernel
theorem dX6_message_2 : decode cX6_message 2 = .ok (.iload_n 2, 1) := by decide +kernel
theorem dX6_message_3 : decode cX6_message 3 = .ok (.invokevirtual 89, 3) := by decide +kernel
theorem dX6_message_6 : decode cX6_message 6 = .ok (.astore 4, 2) := by decide +kernel
theorem dX6_message_8 : decode cX6_message 8 = .ok (.aload 4, 2) := by decide +kernel
theorem dX6_message_10 : decode cX6_message 10 = .ok (.ifnonnull 7, 3) := by decide +kernel
theorem dX6_message_13 : decode cX6_message 13 = .ok (.iconst (-1), 1) := by decide +kernel
theorem dX6_message_14 : decode cX6_message 14 = .ok (.goto 9, 3) := by decide +kernel
theorem dX6_message_17 : decode cX6_message 17 = .ok (.aload 4, 2) := by decide +kernel
theorem dX6_message_19 : decode cX6_message 19 = .ok (.iload_n 3, 1) := by decide +kernel
theorem dX6_message_20 : decode cX6_message 20 = .ok (.invokevirtual 191, 3) := by decide +kernel
theorem dX6_message_23 : decode cX6_message 23 = .ok (.ireturn, 1) := by decide +kernel
def B_WR_message_23 (mc ms : Nat) (Rt : Option zAV → zMp → Prop) (g : Nat → zKT) : zKT :=
  (i_iret mc ms Rt)
set_option maxRecDepth 20000 in
theorem s_WR_message_23 {X : zMa} {mc ms : Nat} {Rt : Option zAV → zMp → Prop} (hC : zCx X RX6 cX6_message 2 43 mc ms (some .int) false Rt) (hN : zNL X = 5) : zLe (B_WR_message_23 mc ms Rt (zG X)) (zG X 23) :=
  (sd_iret hC dX6_message_23)
def B_WR_message_17 (mc ms : Nat) (Rt : Option zAV → zMp → Prop) (g : Nat → zKT) : zKT :=
  (i_al 4 (i_il 3 (i_callV mc ms 2 2 T_Lane_itemAt co_Lane_itemAt (B_WR_message_23 mc ms Rt g))))
set_option maxRecDepth 20000 in
theorem s_WR_message_17 {X : zMa} {mc ms : Nat} {Rt : Option zAV → zMp → Prop} (hC : zCx X RX6 cX6_message 2 43 mc ms (some .int) false Rt) (hN : zNL X = 5) : zLe (B_WR_message_17 mc ms Rt (zG X)) (zG X 17) :=
  (sd_al hC dX6_message_17 ((sd_il_n hC rfl dX6_message_19 ((sd_cV hC c_Lane_itemAt yv_Lane_itemAt (ci := 2) rfl rfl ml_WR_191 (by decide) (by decide) dX6_message_20 (s_WR_message_23 hC hN))))))
def B_WR_message_0 (mc ms : Nat) (Rt : Option zAV → zMp → Prop) (g : Nat → zKT) : zKT :=
  (i_al 0 (i_il 1 (i_il 2 (i_callV mc ms 7 3 T_WR_laneFrom co_WR_laneFrom (i_as 4 (i_al 4 (i_ifn (i_ic (-1) (B_WR_message_23 mc ms Rt g)) (B_WR_message_17 mc ms Rt g))))))))
set_option maxRecDepth 20000 in
theorem s_WR_message_0 {X : zMa} {mc ms : Nat} {Rt : Option zAV → zMp → Prop} (hC : zCx X RX6 cX6_message 2 43 mc ms (some .int) false Rt) (hN : zNL X = 5) : zLe (B_WR_message_0 mc ms Rt (zG X)) (zG X 0) :=
  (sd_al_n hC rfl dX6_message_0 ((sd_il_n hC rfl dX6_message_1 ((sd_il_n hC rfl dX6_message_2 ((sd_cV hC c_WR_laneFrom yv_WR_laneFrom (ci := 7) rfl rfl ml_WR_89 (by decide) (by decide) dX6_message_3 ((sd_as hC (by rw [hN]; decide) dX6_message_6 ((sd_al hC dX6_message_8 ((sd_ifnonnull hC (tgt := 17) (by decide) dX6_message_10 (s_WR_message_17 hC hN) ((sd_iconst hC (by decide) dX6_message_13 ((sd_goto hC (tgt := 23) (by decide) dX6_message_14 (s_WR_message_23 hC hN))))))))))))))))))
theorem c_WR_message (l : Launch) : zCT l yX6_message cX6_message 5 (some .int) 2 43 T_WR_message co_WR_message := by
  intro As M Rt hT
  obtain ⟨x, u, v, i, rfl, rfl, hI, hR0, hR1⟩ := hT
  refine zMet_of false (by decide +kernel) (fun h => by first | rfl | cases h) (Nat.le_of_ble_eq_true rfl) (fun X hN hC => ?_)
  show zG X 0 [some (.inr (0, 0, 0)), some (.inl (.int u)), some (.inl (.int v)), some (.inl (.int i)), none] [] (pic x) 0 0
  refine s_WR_message_0 hC hN _ _ _ _ _ ?_
  simp only [B_WR_message_0, B_WR_message_17, B_WR_message_23, co_Lane_itemAt, co_WR_laneFrom, co_WR_message, i_ic, i_lc, i_nul, i_il, i_ll, i_al, i_is, i_as, i_ls, i_inc, i_iadd, i_isub, i_imul, i_iand, i_ior, i_ixor, i_idiv, i_irem, i_ishl, i_ishr, i_ladd, i_lsub, i_land, i_lor, i_i2l, i_lushr, i_lshl, i_lshr, i_lcmp, i_dup, i_pop, i_dx1, i_dup2, i_ifeq, i_ifne, i_iflt, i_ifge, i_ifgt, i_ifle, i_iceq, i_icne, i_iclt, i_icge, i_icgt, i_icle, i_ifn, i_gf, i_pf, i_ial, i_bal, i_lal, i_aal, i_ias, i_las, i_bas, i_aas, i_alen, i_newa, i_new, i_anew, i_cast, i_oi, i_call, i_callV, i_callV2, i_callI, i_iret, i_zret, i_lret, i_vret, i_aret, i_mmx, i_mmn, i_gsE, i_aceq, i_no, i_acq, i_sw, zsw, zlg, zls, znl, zfg, zcs, zsp, zrc, zisn, zft, zc1, zto, Value.category, List.set_cons_zero, List.set_cons_succ, List.length_cons, List.length_nil, Option.toList, List.append, List.nil_append, List.cons_append, true_and, and_true, Nat.add_zero, Nat.zero_le, Nat.zero_add, Nat.le_refl, Nat.reduceAdd, Nat.reduceLeDiff, co0, z0, zn_0, zn_1, zn_2, zn_3, zn_4, zn_5, zn_8, zn_12, zn_24, zn_121, zn_144, zn_256, zn_300, zn_600, zn_720, zn_1204, zn_1280, zn_2400, zn_4816, zn_14400, zn_90000, p_main, x_main]
  refine ⟨x, u, v, rfl, rfl, hI.dk, ?_⟩
  rcases lnF_c hI u v with e | ⟨l, e, hok⟩
  · rw [e]
    simp only [zln, Option.map_none, zov, i_ic, i_lc, i_nul, i_il, i_ll, i_al, i_is, i_as, i_ls, i_inc, i_iadd, i_isub, i_imul, i_iand, i_ior, i_ixor, i_idiv, i_irem, i_ishl, i_ishr, i_ladd, i_lsub, i_land, i_lor, i_i2l, i_lushr, i_lshl, i_lshr, i_lcmp, i_dup, i_pop, i_dx1, i_dup2, i_ifeq, i_ifne, i_iflt, i_ifge, i_ifgt, i_ifle, i_iceq, i_icne, i_iclt, i_icge, i_icgt, i_icle, i_ifn, i_gf, i_pf, i_ial, i_bal, i_lal, i_aal, i_ias, i_las, i_bas, i_aas, i_alen, i_newa, i_new, i_anew, i_cast, i_oi, i_call, i_callV, i_callV2, i_callI, i_iret, i_zret, i_lret, i_vret, i_aret, i_mmx, i_mmn, i_gsE, i_aceq, i_no, i_acq, i_sw, zsw, zlg, zls, znl, zfg, zcs, zsp, zrc, zisn, zft, zc1, zto, Value.category, List.set_cons_zero, List.set_cons_succ, List.length_cons, List.length_nil, Option.toList, List.append, List.nil_append, List.cons_append, true_and, and_true, Nat.add_zero, Nat.zero_le, Nat.zero_add, Nat.le_refl, Nat.reduceAdd, Nat.reduceLeDiff, co0, z0, zn_0, zn_1, zn_2, zn_3, zn_4, zn_5, zn_8, zn_12, zn_24, zn_121, zn_144, zn_256, zn_300, zn_600, zn_720, zn_1204, zn_1280, zn_2400, zn_4816, zn_14400, zn_90000]
    exact hR0 e
  · rw [e]
    simp only [zln, Option.map_some, zov, p_lane hok.1, x_lane, i_ic, i_lc, i_nul, i_il, i_ll, i_al, i_is, i_as, i_ls, i_inc, i_iadd, i_isub, i_imul, i_iand, i_ior, i_ixor, i_idiv, i_irem, i_ishl, i_ishr, i_ladd, i_lsub, i_land, i_lor, i_i2l, i_lushr, i_lshl, i_lshr, i_lcmp, i_dup, i_pop, i_dx1, i_dup2, i_ifeq, i_ifne, i_iflt, i_ifge, i_ifgt, i_ifle, i_iceq, i_icne, i_iclt, i_icge, i_icgt, i_icle, i_ifn, i_gf, i_pf, i_ial, i_bal, i_lal, i_aal, i_ias, i_las, i_bas, i_aas, i_alen, i_newa, i_new, i_anew, i_cast, i_oi, i_call, i_callV, i_callV2, i_callI, i_iret, i_zret, i_lret, i_vret, i_aret, i_mmx, i_mmn, i_gsE, i_aceq, i_no, i_acq, i_sw, zsw, zlg, zls, znl, zfg, zcs, zsp, zrc, zisn, zft, zc1, zto, Value.category, List.set_cons_zero, List.set_cons_succ, List.length_cons, List.length_nil, Option.toList, List.append, List.nil_append, List.cons_append, true_and, and_true, Nat.add_zero, Nat.zero_le, Nat.zero_add, Nat.le_refl, Nat.reduceAdd, Nat.reduceLeDiff, co0, z0, zn_0, zn_1, zn_2, zn_3, zn_4, zn_5, zn_8, zn_12, zn_24, zn_121, zn_144, zn_256, zn_300, zn_600, zn_720, zn_1204, zn_1280, zn_2400, zn_4816, zn_14400, zn_90000]
    exact ⟨x, l, i, rfl, rfl, hok, hR1 l e⟩
def T_WR_covers (As : List zAV) (M : zMp) (Rt : Option zAV → zMp → Prop) : Prop := ∃ x a b, As = [.inr (0, 0, 0), .inl (.int a), .inl (.int b)] ∧ M = pic x ∧ Iv x ∧ ((isn (x_nw x) a = false ∨ isn (x_nw x) b = false) → Rt (some (.inl (.int (-1)))) M) ∧ (∀ i j, i < x_nw x → j < x_nw x → a = nI i → b = nI j → Rt (some (.inl (.int (zb (ws_takes x i j))))) M)
abbrev co_WR_covers := co0
theorem dX6_covers_0 : decode cX6_covers 0 = .ok (.aload_n 0, 1) := by decide +kernel
theorem dX6_covers_1 : decode cX6_covers 1 = .ok (.iload_n 1, 1) := by decide +kernel
theorem dX6_covers_2 : decode cX6_covers 2 = .ok (.invokevirtual 136, 3) := by decide +kernel
theorem dX6_covers_5 : decode cX6_covers 5 = .ok (.astore_n 3, 1) := by decide +kernel
theorem dX6_covers_6 : decode cX6_covers 6 = .ok (.aload_n 0, 1) := by decide +kernel
theorem dX6_covers_7 : decode cX6_covers 7 = .ok (.iload_n 2, 1) := by decide +kernel
theorem dX6_covers_8 : decode cX6_covers 8 = .ok (.invokevirtual 136, 3) := by decide +kernel
theorem dX6_covers_11 : decode cX6_covers 11 = .ok (.astore 4, 2) := by decide +kernel
theorem dX6_covers_13 : decode cX6_covers 13 = .ok (.aload_n 3, 1) := by decide +kernel
theorem dX6_covers_14 : decode cX6_covers 14 = .ok (.ifnull 8, 3) := by decide +kernel
theorem dX6_covers_17 : decode cX6_covers 17 = .ok (.aload 4, 2) := by decide +kernel
theorem dX6_covers_19 : decode cX6_covers 19 = .ok (.ifnonnull 5, 3) := by decide +kernel
theorem dX6_covers_22 : decode cX6_covers 22 = .ok (.iconst (-1), 1) := by decide +kernel
theorem dX6_covers_23 : decode cX6_covers 23 = .ok (.ireturn, 1) := by decide +kernel
theorem dX6_covers_24 : decode cX6_covers 24 = .ok (.aload_n 3, 1) := by decide +kernel
theorem dX6_covers_25 : decode cX6_covers 25 = .ok (.aload 4, 2) := by decide +kernel
theorem dX6_covers_27 : decode cX6_covers 27 = .ok (.invokevirtual 173, 3) := by decide +kernel
theorem dX6_covers_30 : decode cX6_covers 30 = .ok (.ifCond .eq 7, 3) := by decide +kernel
theorem dX6_covers_33 : decode cX6_covers 33 = .ok (.iconst 1, 1) := by decide +kernel
theorem dX6_covers_34 : decode cX6_covers 34 = .ok (.goto 4, 3) := by decide +kernel
theorem dX6_covers_37 : decode cX6_covers 37 = .ok (.iconst 0, 1) := by decide +kernel
theorem dX6_covers_38 : decode cX6_covers 38 = .ok (.ireturn, 1) := by decide +kernel
def B_WR_covers_38 (mc ms : Nat) (Rt : Option zAV → zMp → Prop) (g : Nat → zKT) : zKT :=
  (i_iret mc ms Rt)
set_option maxRecDepth 20000 in
theorem s_WR_covers_38 {X : zMa} {mc ms : Nat} {Rt : Option zAV → zMp → Prop} (hC : zCx X RX6 cX6_covers 5 113 mc ms (some .int) false Rt) (hN : zNL X = 5) : zLe (B_WR_covers_38 mc ms Rt (zG X)) (zG X 38) :=
  (sd_iret hC dX6_covers_38)
def B_WR_covers_37 (mc ms : Nat) (Rt : Option zAV → zMp → Prop) (g : Nat → zKT) : zKT :=
  (i_ic 0 (B_WR_covers_38 mc ms Rt g))
set_option maxRecDepth 20000 in
theorem s_WR_covers_37 {X : zMa} {mc ms : Nat} {Rt : Option zAV → zMp → Prop} (hC : zCx X RX6 cX6_covers 5 113 mc ms (some .int) false Rt) (hN : zNL X = 5) : zLe (B_WR_covers_37 mc ms Rt (zG X)) (zG X 37) :=
  (sd_iconst hC (by decide) dX6_covers_37 (s_WR_covers_38 hC hN))
def B_WR_covers_24 (mc ms : Nat) (Rt : Option zAV → zMp → Prop) (g : Nat → zKT) : zKT :=
  (i_al 3 (i_al 4 (i_callV mc ms 6 2 T_Wsh_takesIn co_Wsh_takesIn (i_ifeq (B_WR_covers_37 mc ms Rt g) (i_ic 1 (B_WR_covers_38 mc ms Rt g))))))
set_option maxRecDepth 20000 in
theorem s_WR_covers_24 {X : zMa} {mc ms : Nat} {Rt : Option zAV → zMp → Prop} (hC : zCx X RX6 cX6_covers 5 113 mc ms (some .int) false Rt) (hN : zNL X = 5) : zLe (B_WR_covers_24 mc ms Rt (zG X)) (zG X 24) :=
  (sd_al_n hC rfl dX6_covers_24 ((sd_al hC dX6_covers_25 ((sd_cV hC c_Wsh_takesIn yv_Wsh_takesIn (ci := 6) rfl rfl ml_WR_173 (by decide) (by decide) dX6_covers_27 ((sd_ifeq hC (tgt := 37) (by decide) dX6_covers_30 (s_WR_covers_37 hC hN) ((sd_iconst hC (by decide) dX6_covers_33 ((sd_goto hC (tgt := 38) (by decide) dX6_covers_34 (s_WR_covers_38 hC hN))))))))))))
def B_WR_covers_22 (mc ms : Nat) (Rt : Option zAV → zMp → Prop) (g : Nat → zKT) : zKT :=
  (i_ic (-1) (i_iret mc ms Rt))
set_option maxRecDepth 20000 in
theorem s_WR_covers_22 {X : zMa} {mc ms : Nat} {Rt : Option zAV → zMp → Prop} (hC : zCx X RX6 cX6_covers 5 113 mc ms (some .int) false Rt) (hN : zNL X = 5) : zLe (B_WR_covers_22 mc ms Rt (zG X)) (zG X 22) :=
  (sd_iconst hC (by decide) dX6_covers_22 ((sd_iret hC dX6_covers_23)))
def B_WR_covers_0 (mc ms : Nat) (Rt : Option zAV → zMp → Prop) (g : Nat → zKT) : zKT :=
  (i_al 0 (i_il 1 (i_callV mc ms 7 2 T_WR_findWish co_WR_findWish (i_as 3 (i_al 0 (i_il 2 (i_callV mc ms 7 2 T_WR_findWish co_WR_findWish (i_as 4 (i_al 3 (i_ifn (B_WR_covers_22 mc ms Rt g) (i_al 4 (i_ifn (B_WR_covers_22 mc ms Rt g) (B_WR_covers_24 mc ms Rt g)))))))))))))
set_option maxRecDepth 20000 in
theorem s_WR_covers_0 {X : zMa} {mc ms : Nat} {Rt : Option zAV → zMp → Prop} (hC : zCx X RX6 cX6_covers 5 113 mc ms (some .int) false Rt) (hN : zNL X = 5) : zLe (B_WR_covers_0 mc ms Rt (zG X)) (zG X 0) :=
  (sd_al_n hC rfl dX6_covers_0 ((sd_il_n hC rfl dX6_covers_1 ((sd_cV hC c_WR_findWish yv_WR_findWish (ci := 7) rfl rfl ml_WR_136 (by decide) (by decide) dX6_covers_2 ((sd_as_n hC rfl (by rw [hN]; decide) dX6_covers_5 ((sd_al_n hC rfl dX6_covers_6 ((sd_il_n hC rfl dX6_covers_7 ((sd_cV hC c_WR_findWish yv_WR_findWish (ci := 7) rfl rfl ml_WR_136 (by decide) (by decide) dX6_covers_8 ((sd_as hC (by rw [hN]; decide) dX6_covers_11 ((sd_al_n hC rfl dX6_covers_13 ((sd_ifnull hC (tgt := 22) (by decide) dX6_covers_14 (s_WR_covers_22 hC hN) ((sd_al hC dX6_covers_17 ((sd_ifnonnull hC (tgt := 24) (by decide) dX6_covers_19 (s_WR_covers_24 hC hN) (s_WR_covers_22 hC hN))))))))))))))))))))))))
theorem c_WR_covers (l : Launch) : zCT l yX6_covers cX6_covers 5 (some .int) 5 113 T_WR_covers co_WR_covers := by
  intro As M Rt hT
  obtain ⟨x, a, b, rfl, rfl, hI, hR0, hR1⟩ := hT
  have hb : x_nw x < 2 ^ 31 := by have := hI.lim; omega
  refine zMet_of false (by decide +kernel) (fun h => by first | rfl | cases h) (Nat.le_of_ble_eq_true rfl) (fun X hN hC => ?_)
  show zG X 0 [some (.inr (0, 0, 0)), some (.inl (.int a)), some (.inl (.int b)), none, none] [] (pic x) 0 0
  refine s_WR_covers_0 hC hN _ _ _ _ _ ?_
  simp only [B_WR_covers_0, B_WR_covers_22, B_WR_covers_24, B_WR_covers_37, B_WR_covers_38, co_WR_covers, co_WR_findWish, co_Wsh_takesIn, i_ic, i_lc, i_nul, i_il, i_ll, i_al, i_is, i_as, i_ls, i_inc, i_iadd, i_isub, i_imul, i_iand, i_ior, i_ixor, i_idiv, i_irem, i_ishl, i_ishr, i_ladd, i_lsub, i_land, i_lor, i_i2l, i_lushr, i_lshl, i_lshr, i_lcmp, i_dup, i_pop, i_dx1, i_dup2, i_ifeq, i_ifne, i_iflt, i_ifge, i_ifgt, i_ifle, i_iceq, i_icne, i_iclt, i_icge, i_icgt, i_icle, i_ifn, i_gf, i_pf, i_ial, i_bal, i_lal, i_aal, i_ias, i_las, i_bas, i_aas, i_alen, i_newa, i_new, i_anew, i_cast, i_oi, i_call, i_callV, i_callV2, i_callI, i_iret, i_zret, i_lret, i_vret, i_aret, i_mmx, i_mmn, i_gsE, i_aceq, i_no, i_acq, i_sw, zsw, zlg, zls, znl, zfg, zcs, zsp, zrc, zisn, zft, zc1, zto, Value.category, List.set_cons_zero, List.set_cons_succ, List.length_cons, List.length_nil, Option.toList, List.append, List.nil_append, List.cons_append, true_and, and_true, Nat.add_zero, Nat.zero_le, Nat.zero_add, Nat.le_refl, Nat.reduceAdd, Nat.reduceLeDiff, co0, z0, zn_0, zn_1, zn_2, zn_3, zn_4, zn_5, zn_8, zn_12, zn_24, zn_121, zn_144, zn_256, zn_300, zn_600, zn_720, zn_1204, zn_1280, zn_2400, zn_4816, zn_14400, zn_90000, p_main, x_main]
  refine ⟨x, a, rfl, rfl, hI, ?_⟩
  rcases fnd_c (K := 15) hb a with ⟨e, e2⟩ | ⟨i, hi, rfl, e, -⟩
  · rw [e]
    simp only [zov, p_main, x_main, i_ic, i_lc, i_nul, i_il, i_ll, i_al, i_is, i_as, i_ls, i_inc, i_iadd, i_isub, i_imul, i_iand, i_ior, i_ixor, i_idiv, i_irem, i_ishl, i_ishr, i_ladd, i_lsub, i_land, i_lor, i_i2l, i_lushr, i_lshl, i_lshr, i_lcmp, i_dup, i_pop, i_dx1, i_dup2, i_ifeq, i_ifne, i_iflt, i_ifge, i_ifgt, i_ifle, i_iceq, i_icne, i_iclt, i_icge, i_icgt, i_icle, i_ifn, i_gf, i_pf, i_ial, i_bal, i_lal, i_aal, i_ias, i_las, i_bas, i_aas, i_alen, i_newa, i_new, i_anew, i_cast, i_oi, i_call, i_callV, i_callV2, i_callI, i_iret, i_zret, i_lret, i_vret, i_aret, i_mmx, i_mmn, i_gsE, i_aceq, i_no, i_acq, i_sw, zsw, zlg, zls, znl, zfg, zcs, zsp, zrc, zisn, zft, zc1, zto, Value.category, List.set_cons_zero, List.set_cons_succ, List.length_cons, List.length_nil, Option.toList, List.append, List.nil_append, List.cons_append, true_and, and_true, Nat.add_zero, Nat.zero_le, Nat.zero_add, Nat.le_refl, Nat.reduceAdd, Nat.reduceLeDiff, co0, z0, zn_0, zn_1, zn_2, zn_3, zn_4, zn_5, zn_8, zn_12, zn_24, zn_121, zn_144, zn_256, zn_300, zn_600, zn_720, zn_1204, zn_1280, zn_2400, zn_4816, zn_14400, zn_90000]
    refine ⟨x, b, rfl, rfl, hI, ?_⟩
    rcases fnd_c (K := 15) hb b with ⟨e', -⟩ | ⟨j, hj, rfl, e', -⟩
    · rw [e']; simp only [zov, i_ic, i_lc, i_nul, i_il, i_ll, i_al, i_is, i_as, i_ls, i_inc, i_iadd, i_isub, i_imul, i_iand, i_ior, i_ixor, i_idiv, i_irem, i_ishl, i_ishr, i_ladd, i_lsub, i_land, i_lor, i_i2l, i_lushr, i_lshl, i_lshr, i_lcmp, i_dup, i_pop, i_dx1, i_dup2, i_ifeq, i_ifne, i_iflt, i_ifge, i_ifgt, i_ifle, i_iceq, i_icne, i_iclt, i_icge, i_icgt, i_icle, i_ifn, i_gf, i_pf, i_ial, i_bal, i_lal, i_aal, i_ias, i_las, i_bas, i_aas, i_alen, i_newa, i_new, i_anew, i_cast, i_oi, i_call, i_callV, i_callV2, i_callI, i_iret, i_zret, i_lret, i_vret, i_aret, i_mmx, i_mmn, i_gsE, i_aceq, i_no, i_acq, i_sw, zsw, zlg, zls, znl, zfg, zcs, zsp, zrc, zisn, zft, zc1, zto, Value.category, List.set_cons_zero, List.set_cons_succ, List.length_cons, List.length_nil, Option.toList, List.append, List.nil_append, List.cons_append, true_and, and_true, Nat.add_zero, Nat.zero_le, Nat.zero_add, Nat.le_refl, Nat.reduceAdd, Nat.reduceLeDiff, co0, z0, zn_0, zn_1, zn_2, zn_3, zn_4, zn_5, zn_8, zn_12, zn_24, zn_121, zn_144, zn_256, zn_300, zn_600, zn_720, zn_1204, zn_1280, zn_2400, zn_4816, zn_14400, zn_90000]; exact hR0 (Or.inl e2)
    · rw [e']; simp only [zov, i_ic, i_lc, i_nul, i_il, i_ll, i_al, i_is, i_as, i_ls, i_inc, i_iadd, i_isub, i_imul, i_iand, i_ior, i_ixor, i_idiv, i_irem, i_ishl, i_ishr, i_ladd, i_lsub, i_land, i_lor, i_i2l, i_lushr, i_lshl, i_lshr, i_lcmp, i_dup, i_pop, i_dx1, i_dup2, i_ifeq, i_ifne, i_iflt, i_ifge, i_ifgt, i_ifle, i_iceq, i_icne, i_iclt, i_icge, i_icgt, i_icle, i_ifn, i_gf, i_pf, i_ial, i_bal, i_lal, i_aal, i_ias, i_las, i_bas, i_aas, i_alen, i_newa, i_new, i_anew, i_cast, i_oi, i_call, i_callV, i_callV2, i_callI, i_iret, i_zret, i_lret, i_vret, i_aret, i_mmx, i_mmn, i_gsE, i_aceq, i_no, i_acq, i_sw, zsw, zlg, zls, znl, zfg, zcs, zsp, zrc, zisn, zft, zc1, zto, Value.category, List.set_cons_zero, List.set_cons_succ, List.length_cons, List.length_nil, Option.toList, List.append, List.nil_append, List.cons_append, true_and, and_true, Nat.add_zero, Nat.zero_le, Nat.zero_add, Nat.le_refl, Nat.reduceAdd, Nat.reduceLeDiff, co0, z0, zn_0, zn_1, zn_2, zn_3, zn_4, zn_5, zn_8, zn_12, zn_24, zn_121, zn_144, zn_256, zn_300, zn_600, zn_720, zn_1204, zn_1280, zn_2400, zn_4816, zn_14400, zn_90000]; exact hR0 (Or.inl e2)
  · rw [e]
    simp only [zov, p_main, x_main, i_ic, i_lc, i_nul, i_il, i_ll, i_al, i_is, i_as, i_ls, i_inc, i_iadd, i_isub, i_imul, i_iand, i_ior, i_ixor, i_idiv, i_irem, i_ishl, i_ishr, i_ladd, i_lsub, i_land, i_lor, i_i2l, i_lushr, i_lshl, i_lshr, i_lcmp, i_dup, i_pop, i_dx1, i_dup2, i_ifeq, i_ifne, i_iflt, i_ifge, i_ifgt, i_ifle, i_iceq, i_icne, i_iclt, i_icge, i_icgt, i_icle, i_ifn, i_gf, i_pf, i_ial, i_bal, i_lal, i_aal, i_ias, i_las, i_bas, i_aas, i_alen, i_newa, i_new, i_anew, i_cast, i_oi, i_call, i_callV, i_callV2, i_callI, i_iret, i_zret, i_lret, i_vret, i_aret, i_mmx, i_mmn, i_gsE, i_aceq, i_no, i_acq, i_sw, zsw, zlg, zls, znl, zfg, zcs, zsp, zrc, zisn, zft, zc1, zto, Value.category, List.set_cons_zero, List.set_cons_succ, List.length_cons, List.length_nil, Option.toList, List.append, List.nil_append, List.cons_append, true_and, and_true, Nat.add_zero, Nat.zero_le, Nat.zero_add, Nat.le_refl, Nat.reduceAdd, Nat.reduceLeDiff, co0, z0, zn_0, zn_1, zn_2, zn_3, zn_4, zn_5, zn_8, zn_12, zn_24, zn_121, zn_144, zn_256, zn_300, zn_600, zn_720, zn_1204, zn_1280, zn_2400, zn_4816, zn_14400, zn_90000]
    refine ⟨x, b, rfl, rfl, hI, ?_⟩
    rcases fnd_c (K := 15) hb b with ⟨e', e2'⟩ | ⟨j, hj, rfl, e', -⟩
    · rw [e']; simp only [zov, i_ic, i_lc, i_nul, i_il, i_ll, i_al, i_is, i_as, i_ls, i_inc, i_iadd, i_isub, i_imul, i_iand, i_ior, i_ixor, i_idiv, i_irem, i_ishl, i_ishr, i_ladd, i_lsub, i_land, i_lor, i_i2l, i_lushr, i_lshl, i_lshr, i_lcmp, i_dup, i_pop, i_dx1, i_dup2, i_ifeq, i_ifne, i_iflt, i_ifge, i_ifgt, i_ifle, i_iceq, i_icne, i_iclt, i_icge, i_icgt, i_icle, i_ifn, i_gf, i_pf, i_ial, i_bal, i_lal, i_aal, i_ias, i_las, i_bas, i_aas, i_alen, i_newa, i_new, i_anew, i_cast, i_oi, i_call, i_callV, i_callV2, i_callI, i_iret, i_zret, i_lret, i_vret, i_aret, i_mmx, i_mmn, i_gsE, i_aceq, i_no, i_acq, i_sw, zsw, zlg, zls, znl, zfg, zcs, zsp, zrc, zisn, zft, zc1, zto, Value.category, List.set_cons_zero, List.set_cons_succ, List.length_cons, List.length_nil, Option.toList, List.append, List.nil_append, List.cons_append, true_and, and_true, Nat.add_zero, Nat.zero_le, Nat.zero_add, Nat.le_refl, Nat.reduceAdd, Nat.reduceLeDiff, co0, z0, zn_0, zn_1, zn_2, zn_3, zn_4, zn_5, zn_8, zn_12, zn_24, zn_121, zn_144, zn_256, zn_300, zn_600, zn_720, zn_1204, zn_1280, zn_2400, zn_4816, zn_14400, zn_90000]; exact hR0 (Or.inr e2')
    · rw [e']
      have hi' : i < x_ow x := Nat.lt_of_lt_of_le hi hI.cnt.2.1
      have hj' : j < x_ow x := Nat.lt_of_lt_of_le hj hI.cnt.2.1
      simp only [zov, p_wsh hi', x_wsh, i_ic, i_lc, i_nul, i_il, i_ll, i_al, i_is, i_as, i_ls, i_inc, i_iadd, i_isub, i_imul, i_iand, i_ior, i_ixor, i_idiv, i_irem, i_ishl, i_ishr, i_ladd, i_lsub, i_land, i_lor, i_i2l, i_lushr, i_lshl, i_lshr, i_lcmp, i_dup, i_pop, i_dx1, i_dup2, i_ifeq, i_ifne, i_iflt, i_ifge, i_ifgt, i_ifle, i_iceq, i_icne, i_iclt, i_icge, i_icgt, i_icle, i_ifn, i_gf, i_pf, i_ial, i_bal, i_lal, i_aal, i_ias, i_las, i_bas, i_aas, i_alen, i_newa, i_new, i_anew, i_cast, i_oi, i_call, i_callV, i_callV2, i_callI, i_iret, i_zret, i_lret, i_vret, i_aret, i_mmx, i_mmn, i_gsE, i_aceq, i_no, i_acq, i_sw, zsw, zlg, zls, znl, zfg, zcs, zsp, zrc, zisn, zft, zc1, zto, Value.category, List.set_cons_zero, List.set_cons_succ, List.length_cons, List.length_nil, Option.toList, List.append, List.nil_append, List.cons_append, true_and, and_true, Nat.add_zero, Nat.zero_le, Nat.zero_add, Nat.le_refl, Nat.reduceAdd, Nat.reduceLeDiff, co0, z0, zn_0, zn_1, zn_2, zn_3, zn_4, zn_5, zn_8, zn_12, zn_24, zn_121, zn_144, zn_256, zn_300, zn_600, zn_720, zn_1204, zn_1280, zn_2400, zn_4816, zn_14400, zn_90000]
      have hr := hR1 i j hi hj rfl rfl
      refine ⟨x, i, j, rfl, rfl, ⟨hi', (hI.wsh i hi').2.2⟩, ⟨hj', (hI.wsh j hj').2.2⟩, ?_⟩
      cases hz : ws_takes x i j with
      | true => rw [hz] at hr; exact ⟨fun h => absurd h (by decide), fun _ => hr⟩
      | false => rw [hz] at hr; exact ⟨fun _ => hr, fun h => absurd rfl h⟩
