/-! a wish's four tests, made anew -/
def aw (M : zMp) (g i : Nat) : zMp := fun n => if n = (9, g, 0) then some (zra "WishRoutes$FieldTest" 4 (fun f => if f < i then some (7, g, f) else none)) else if n.1 = 7 ∧ n.2.1 = g ∧ n.2.2 < i then some (zfo 0 (8, g, n.2.2) 0) else if n.1 = 8 ∧ n.2.1 = g ∧ n.2.2 < i then some (zin 4 (fun _ => 0)) else M n
theorem aw_9 (M : zMp) (g i : Nat) : aw M g i (9, g, 0) = some (zra "WishRoutes$FieldTest" 4 (fun f => if f < i then some (7, g, f) else none)) := if_pos rfl
theorem aw_o {M : zMp} {g i : Nat} {k a b : Nat} (h9 : ¬ (k = 9 ∧ a = g ∧ b = 0)) (h7 : ¬ (k = 7 ∧ a = g ∧ b < i)) (h8 : ¬ (k = 8 ∧ a = g ∧ b < i)) : aw M g i (k, a, b) = M (k, a, b) := by
  unfold aw
  rw [if_neg (nm_ne h9), if_neg h7, if_neg h8]
theorem aw_7 {M : zMp} {g i b : Nat} (h : b < i) : aw M g i (7, g, b) = some (zfo 0 (8, g, b) 0) := by
  unfold aw
  rw [if_neg (nm_ne (by omega)), if_pos ⟨rfl, rfl, h⟩]
theorem aw_8 {M : zMp} {g i b : Nat} (h : b < i) : aw M g i (8, g, b) = some (zin 4 (fun _ => 0)) := by
  unfold aw
  rw [if_neg (nm_ne (by omega)), if_neg (fun q => absurd q.1 (by simp)), if_pos ⟨rfl, rfl, h⟩]
theorem aw_0 (M : zMp) (g : Nat) : zup M (9, g, 0) (zra "WishRoutes$FieldTest" 4 (fun _ => none)) = aw M g 0 := by
  funext n
  obtain ⟨k, a, b⟩ := n
  by_cases h : (k, a, b) = (9, g, 0)
  · rw [h, zup_s, aw_9]
    rfl
  · rw [zup_o h, aw_o (fun q => h (by rw [q.1, q.2.1, q.2.2])) (by omega) (by omega)]
theorem aw_s (M : zMp) (g i : Nat) (e0 : zAE) : zup (zup (zup (zup (aw M g i) (7, g, i) e0) (8, g, i) (zin 4 (fun _ => 0))) (7, g, i) (zfo 0 (8, g, i) 0)) (9, g, 0) (zra "WishRoutes$FieldTest" 4 (va_up (fun f => if f < i then some (7, g, f) else none) i (some (7, g, i)))) = aw M g (i + 1) := by
  funext n
  obtain ⟨k, a, b⟩ := n
  by_cases h : (k, a, b) = (9, g, 0)
  · rw [h, zup_s, aw_9]
    congr 5
    funext f
    simp only [va_up]
    by_cases hf : f = i
    · rw [if_pos hf, if_pos (by omega), hf]
    · rw [if_neg hf]
      by_cases hlt : f < i
      · rw [if_pos hlt, if_pos (by omega)]
      · rw [if_neg hlt, if_neg (by omega)]
  · rw [zup_o h]
    by_cases h7 : (k, a, b) = (7, g, i)
    · rw [h7, zup_s, aw_7 (by omega)]
    · rw [zup_o h7]
      by_cases h8 : (k, a, b) = (8, g, i)
      · rw [h8, zup_s, aw_8 (by omega)]
      · rw [zup_o h8, zup_o h7]
        by_cases q7 : k = 7 ∧ a = g ∧ b < i
        · obtain ⟨rfl, rfl, q⟩ := q7
          rw [aw_7 q, aw_7 (by omega)]
        · by_cases q8 : k = 8 ∧ a = g ∧ b < i
          · obtain ⟨rfl, rfl, q⟩ := q8
            rw [aw_8 q, aw_8 (by omega)]
          · rw [aw_o (fun q => h (by rw [q.1, q.2.1, q.2.2])) q7 q8, aw_o (fun q => h (by rw [q.1, q.2.1, q.2.2])) (fun q => ?_) (fun q => ?_)]
            · by_cases hb : b = i
              · exact h7 (by rw [q.1, q.2.1, hb])
              · exact q7 ⟨q.1, q.2.1, by omega⟩
            · by_cases hb : b = i
              · exact h8 (by rw [q.1, q.2.1, hb])
              · exact q8 ⟨q.1, q.2.1, by omega⟩
def T_WR_allAny (As : List zAV) (M : zMp) (Rt : Option zAV → zMp → Prop) : Prop := ∃ g, As = [] ∧ M (9, g, 0) = none ∧ (∀ f, f < 4 → M (7, g, f) = none ∧ M (8, g, f) = none) ∧ Rt (some (.inr (9, g, 0))) (aw M g 4)
def co_WR_allAny : List zAV → zMp → Nat × Nat := fun _ _ => (9, 32)
theorem dX6_allAny_0 : decode cX6_allAny 0 = .ok (.iconst 4, 1) := by decide +kernel
theorem dX6_allAny_1 : decode cX6_allAny 1 = .ok (.anewarray 119, 3) := by decide +kernel
theorem dX6_allAny_4 : decode cX6_allAny 4 = .ok (.astore_n 0, 1) := by decide +kernel
theorem dX6_allAny_5 : decode cX6_allAny 5 = .ok (.iconst 0, 1) := by decide +kernel
theorem dX6_allAny_6 : decode cX6_allAny 6 = .ok (.istore_n 1, 1) := by decide +kernel
theorem dX6_allAny_7 : decode cX6_allAny 7 = .ok (.iload_n 1, 1) := by decide +kernel
theorem dX6_allAny_8 : decode cX6_allAny 8 = .ok (.iconst 4, 1) := by decide +kernel
theorem dX6_allAny_9 : decode cX6_allAny 9 = .ok (.if_icmp .ge 19, 3) := by decide +kernel
theorem dX6_allAny_12 : decode cX6_allAny 12 = .ok (.aload_n 0, 1) := by decide +kernel
theorem dX6_allAny_13 : decode cX6_allAny 13 = .ok (.iload_n 1, 1) := by decide +kernel
theorem dX6_allAny_14 : decode cX6_allAny 14 = .ok (.new 119, 3) := by decide +kernel
theorem dX6_allAny_17 : decode cX6_allAny 17 = .ok (.dup, 1) := by decide +kernel
theorem dX6_allAny_18 : decode cX6_allAny 18 = .ok (.invokespecial 226, 3) := by decide +kernel
theorem dX6_allAny_21 : decode cX6_allAny 21 = .ok (.aastore, 1) := by decide +kernel
theorem dX6_allAny_22 : decode cX6_allAny 22 = .ok (.iinc 1 1, 3) := by decide +kernel
theorem dX6_allAny_25 : decode cX6_allAny 25 = .ok (.goto (-18), 3) := by decide +kernel
theorem dX6_allAny_28 : decode cX6_allAny 28 = .ok (.aload_n 0, 1) := by decide +kernel
theorem dX6_allAny_29 : decode cX6_allAny 29 = .ok (.areturn, 1) := by decide +kernel
def B_WR_allAny_28 (mc ms : Nat) (Rt : Option zAV → zMp → Prop) (g : Nat → zKT) : zKT :=
  (i_al 0 (i_aret mc ms Rt))
set_option maxRecDepth 20000 in
theorem s_WR_allAny_28 {X : zMa} {mc ms : Nat} {Rt : Option zAV → zMp → Prop} (hC : zCx X RX6 cX6_allAny 2 40 mc ms (some (.array (.object "WishRoutes$FieldTest"))) false Rt) (hN : zNL X = 2) : zLe (B_WR_allAny_28 mc ms Rt (zG X)) (zG X 28) :=
  (sd_al_n hC rfl dX6_allAny_28 ((sd_aret hC (Or.inr ⟨_, rfl⟩) dX6_allAny_29)))
def B_WR_allAny_7 (mc ms : Nat) (Rt : Option zAV → zMp → Prop) (g : Nat → zKT) : zKT :=
  (i_il 1 (i_ic 4 (i_icge (B_WR_allAny_28 mc ms Rt g) (i_al 0 (i_il 1 (i_new mc ms 1 3 [.inl (.int 0), .inl .null, .inl (.int 0)] (i_dup (i_callI mc ms 1 T_FT_init co_FT_init (i_aas "WishRoutes$FieldTest" (i_inc 1 1 (g 7)))))))))))
set_option maxRecDepth 20000 in
theorem s_WR_allAny_7 {X : zMa} {mc ms : Nat} {Rt : Option zAV → zMp → Prop} (hC : zCx X RX6 cX6_allAny 2 40 mc ms (some (.array (.object "WishRoutes$FieldTest"))) false Rt) (hN : zNL X = 2) : zLe (B_WR_allAny_7 mc ms Rt (zG X)) (zG X 7) :=
  (sd_il_n hC rfl dX6_allAny_7 ((sd_iconst hC (by decide) dX6_allAny_8 ((sd_icge hC (tgt := 28) (by decide) dX6_allAny_9 (s_WR_allAny_28 hC hN) ((sd_al_n hC rfl dX6_allAny_12 ((sd_il_n hC rfl dX6_allAny_13 ((sd_new hC (ci := 1) rfl wi_FT tyX0 tyX0_ok cl_WR_119 in_FT iz_FT (by decide) (by intro n h; simp at h) dX6_allAny_14 ((sd_dup hC dX6_allAny_17 ((sd_cIN hC c_FT_init yi_FT_init mn_WR_226 (by decide) (by decide) dX6_allAny_18 ((sd_aas hC dX6_allAny_21 ((sd_inc hC (by decide) (by rw [hN]; decide) dX6_allAny_22 ((sd_goto hC (tgt := 7) (by decide) dX6_allAny_25 (zLe_rfl))))))))))))))))))))))
def B_WR_allAny_0 (mc ms : Nat) (Rt : Option zAV → zMp → Prop) (g : Nat → zKT) : zKT :=
  (i_ic 4 (i_anew mc ms "WishRoutes$FieldTest" (i_as 0 (i_ic 0 (i_is 1 (g 7))))))
set_option maxRecDepth 20000 in
theorem s_WR_allAny_0 {X : zMa} {mc ms : Nat} {Rt : Option zAV → zMp → Prop} (hC : zCx X RX6 cX6_allAny 2 40 mc ms (some (.array (.object "WishRoutes$FieldTest"))) false Rt) (hN : zNL X = 2) : zLe (B_WR_allAny_0 mc ms Rt (zG X)) (zG X 0) :=
  (sd_iconst hC (by decide) dX6_allAny_0 ((sd_anew hC cl_WR_119 ao_FT_0 dX6_allAny_1 ((sd_as_n hC rfl (by rw [hN]; decide) dX6_allAny_4 ((sd_iconst hC (by decide) dX6_allAny_5 ((sd_is_n hC rfl (by rw [hN]; decide) dX6_allAny_6 (zLe_rfl))))))))))
theorem c_WR_allAny (l : Launch) : zCT l yX6_allAny cX6_allAny 2 (some (.array (.object "WishRoutes$FieldTest"))) 2 40 T_WR_allAny co_WR_allAny := by
  intro As M Rt hT
  obtain ⟨g, rfl, h9, h78, hR⟩ := hT
  refine zMet_of false (by decide +kernel) (fun h => by first | rfl | cases h) (Nat.le_of_ble_eq_true rfl) (fun X hN hC => ?_)
  show zG X 0 [none, none] [] M 0 0
  have loop := upto (N := 4) (P := fun i => zG X 7 [some (.inr (9, g, 0)), some (.inl (.int (nI i)))] [] (aw M g i) (1 + 2 * i) (4 + 7 * i)) (fun i hi ih => by
    refine s_WR_allAny_7 hC hN _ _ _ _ _ ?_
    simp only [B_WR_allAny_0, B_WR_allAny_7, B_WR_allAny_28, co_FT_init, co_WR_allAny, i_ic, i_lc, i_nul, i_il, i_ll, i_al, i_is, i_as, i_ls, i_inc, i_iadd, i_isub, i_imul, i_iand, i_ior, i_ixor, i_idiv, i_irem, i_ishl, i_ishr, i_ladd, i_lsub, i_land, i_lor, i_i2l, i_lushr, i_lshl, i_lshr, i_lcmp, i_dup, i_pop, i_dx1, i_dup2, i_ifeq, i_ifne, i_iflt, i_ifge, i_ifgt, i_ifle, i_iceq, i_icne, i_iclt, i_icge, i_icgt, i_icle, i_ifn, i_gf, i_pf, i_ial, i_bal, i_lal, i_aal, i_ias, i_las, i_bas, i_aas, i_alen, i_newa, i_new, i_anew, i_cast, i_oi, i_call, i_callV, i_callV2, i_callI, i_iret, i_zret, i_lret, i_vret, i_aret, i_mmx, i_mmn, i_gsE, i_aceq, i_no, i_acq, i_sw, zsw, zlg, zls, znl, zfg, zcs, zsp, zrc, zisn, zft, zc1, zto, Value.category, List.set_cons_zero, List.set_cons_succ, List.length_cons, List.length_nil, Option.toList, List.append, List.nil_append, List.cons_append, true_and, and_true, Nat.add_zero, Nat.zero_le, Nat.zero_add, Nat.le_refl, Nat.reduceAdd, Nat.reduceLeDiff, co0, z0, zn_0, zn_1, zn_2, zn_3, zn_4, zn_5, zn_8, zn_12, zn_24, zn_121, zn_144, zn_256, zn_300, zn_600, zn_720, zn_1204, zn_1280, zn_2400, zn_4816, zn_14400, zn_90000]
    have f7 : aw M g i (7, g, i) = none := by rw [aw_o (by omega) (by omega) (by omega)]; exact (h78 i hi).1
    have f8 : aw M g i (8, g, i) = none := by rw [aw_o (by omega) (by omega) (by omega)]; exact (h78 i hi).2
    rw [nI_1]
    refine ⟨fun h => absurd ((zK (K := 4) (by decide) (n := i) (by omega)).2.1.mp h) (by omega), fun _ => ⟨(7, g, i), f7, m_k (by decide), by omega, by omega, by omega, by omega, (7, g, i), (8, g, i), rfl, zup_s, m_k (by decide), by rw [zup_o (nm_ne (by omega))]; exact f8, m_k (by decide), ?_⟩⟩
    have n1 : ((9, g, 0) : zNm) ≠ (7, g, i) := nm_ne (by omega)
    have n2 : ((9, g, 0) : zNm) ≠ (8, g, i) := nm_ne (by omega)
    simp only [zup_o n1, zup_o n2, aw_9, zok, zup_s, zto, i_ic, i_lc, i_nul, i_il, i_ll, i_al, i_is, i_as, i_ls, i_inc, i_iadd, i_isub, i_imul, i_iand, i_ior, i_ixor, i_idiv, i_irem, i_ishl, i_ishr, i_ladd, i_lsub, i_land, i_lor, i_i2l, i_lushr, i_lshl, i_lshr, i_lcmp, i_dup, i_pop, i_dx1, i_dup2, i_ifeq, i_ifne, i_iflt, i_ifge, i_ifgt, i_ifle, i_iceq, i_icne, i_iclt, i_icge, i_icgt, i_icle, i_ifn, i_gf, i_pf, i_ial, i_bal, i_lal, i_aal, i_ias, i_las, i_bas, i_aas, i_alen, i_newa, i_new, i_anew, i_cast, i_oi, i_call, i_callV, i_callV2, i_callI, i_iret, i_zret, i_lret, i_vret, i_aret, i_mmx, i_mmn, i_gsE, i_aceq, i_no, i_acq, i_sw, zsw, zlg, zls, znl, zfg, zcs, zsp, zrc, zisn, zft, zc1, zto, Value.category, List.set_cons_zero, List.set_cons_succ, List.length_cons, List.length_nil, Option.toList, List.append, List.nil_append, List.cons_append, true_and, and_true, Nat.add_zero, Nat.zero_le, Nat.zero_add, Nat.le_refl, Nat.reduceAdd, Nat.reduceLeDiff, co0, z0, zn_0, zn_1, zn_2, zn_3, zn_4, zn_5, zn_8, zn_12, zn_24, zn_121, zn_144, zn_256, zn_300, zn_600, zn_720, zn_1204, zn_1280, zn_2400, zn_4816, zn_14400, zn_90000]
    rw [nI_clamp (by omega)]
    refine ⟨m_k (by decide), vp_in_nI hi (by decide), zk_FT_FT, ?_⟩
    rw [aw_s]
    have e1 : 1 + 2 * (i + 1) = 1 + 2 * i + 1 + 1 := by omega
    have e2 : 4 + 7 * (i + 1) = 4 + 7 * i + 3 + 4 := by omega
    rw [e1, e2] at ih
    exact ih) (by
    refine s_WR_allAny_7 hC hN _ _ _ _ _ ?_
    simp only [B_WR_allAny_0, B_WR_allAny_7, B_WR_allAny_28, co_FT_init, co_WR_allAny, i_ic, i_lc, i_nul, i_il, i_ll, i_al, i_is, i_as, i_ls, i_inc, i_iadd, i_isub, i_imul, i_iand, i_ior, i_ixor, i_idiv, i_irem, i_ishl, i_ishr, i_ladd, i_lsub, i_land, i_lor, i_i2l, i_lushr, i_lshl, i_lshr, i_lcmp, i_dup, i_pop, i_dx1, i_dup2, i_ifeq, i_ifne, i_iflt, i_ifge, i_ifgt, i_ifle, i_iceq, i_icne, i_iclt, i_icge, i_icgt, i_icle, i_ifn, i_gf, i_pf, i_ial, i_bal, i_lal, i_aal, i_ias, i_las, i_bas, i_aas, i_alen, i_newa, i_new, i_anew, i_cast, i_oi, i_call, i_callV, i_callV2, i_callI, i_iret, i_zret, i_lret, i_vret, i_aret, i_mmx, i_mmn, i_gsE, i_aceq, i_no, i_acq, i_sw, zsw, zlg, zls, znl, zfg, zcs, zsp, zrc, zisn, zft, zc1, zto, Value.category, List.set_cons_zero, List.set_cons_succ, List.length_cons, List.length_nil, Option.toList, List.append, List.nil_append, List.cons_append, true_and, and_true, Nat.add_zero, Nat.zero_le, Nat.zero_add, Nat.le_refl, Nat.reduceAdd, Nat.reduceLeDiff, co0, z0, zn_0, zn_1, zn_2, zn_3, zn_4, zn_5, zn_8, zn_12, zn_24, zn_121, zn_144, zn_256, zn_300, zn_600, zn_720, zn_1204, zn_1280, zn_2400, zn_4816, zn_14400, zn_90000]
    exact ⟨fun _ => hR, fun h => absurd (by decide) h⟩) 0 (Nat.zero_le _)
  refine s_WR_allAny_0 hC hN _ _ _ _ _ ?_
  simp only [B_WR_allAny_0, B_WR_allAny_7, B_WR_allAny_28, co_FT_init, co_WR_allAny, i_ic, i_lc, i_nul, i_il, i_ll, i_al, i_is, i_as, i_ls, i_inc, i_iadd, i_isub, i_imul, i_iand, i_ior, i_ixor, i_idiv, i_irem, i_ishl, i_ishr, i_ladd, i_lsub, i_land, i_lor, i_i2l, i_lushr, i_lshl, i_lshr, i_lcmp, i_dup, i_pop, i_dx1, i_dup2, i_ifeq, i_ifne, i_iflt, i_ifge, i_ifgt, i_ifle, i_iceq, i_icne, i_iclt, i_icge, i_icgt, i_icle, i_ifn, i_gf, i_pf, i_ial, i_bal, i_lal, i_aal, i_ias, i_las, i_bas, i_aas, i_alen, i_newa, i_new, i_anew, i_cast, i_oi, i_call, i_callV, i_callV2, i_callI, i_iret, i_zret, i_lret, i_vret, i_aret, i_mmx, i_mmn, i_gsE, i_aceq, i_no, i_acq, i_sw, zsw, zlg, zls, znl, zfg, zcs, zsp, zrc, zisn, zft, zc1, zto, Value.category, List.set_cons_zero, List.set_cons_succ, List.length_cons, List.length_nil, Option.toList, List.append, List.nil_append, List.cons_append, true_and, and_true, Nat.add_zero, Nat.zero_le, Nat.zero_add, Nat.le_refl, Nat.reduceAdd, Nat.reduceLeDiff, co0, z0, zn_0, zn_1, zn_2, zn_3, zn_4, zn_5, zn_8, zn_12, zn_24, zn_121, zn_144, zn_256, zn_300, zn_600, zn_720, zn_1204, zn_1280, zn_2400, zn_4816, zn_14400, zn_90000]
  refine ⟨(9, g, 0), h9, m_k (by decide), by decide, ?_⟩
  rw [aw_0]
  exact loop
