/-! the reference: numbers, small questions, tests -/
theorem ar_4 (a : Nat) : (4 : Int32) * nI a = nI (4 * a) := by rw [show (4 : Int32) = nI 4 from rfl, pk_mul]
theorem ar_5 (a : Nat) : (5 : Int32) * nI a = nI (5 * a) := by rw [show (5 : Int32) = nI 5 from rfl, pk_mul]
theorem ar_10 (a : Nat) : (10 : Int32) * nI a = nI (10 * a) := by rw [show (10 : Int32) = nI 10 from rfl, pk_mul]
theorem ar_12 (a : Nat) : (12 : Int32) * nI a = nI (12 * a) := by rw [show (12 : Int32) = nI 12 from rfl, pk_mul]
theorem ar_300 (a : Nat) : (300 : Int32) * nI a = nI (300 * a) := by rw [show (300 : Int32) = nI 300 from rfl, pk_mul]
theorem ar_600 (a : Nat) : (600 : Int32) * nI a = nI (600 * a) := by rw [show (600 : Int32) = nI 600 from rfl, pk_mul]
theorem ar_2m (a : Nat) : (2 : Int32) * nI a = nI (2 * a) := by rw [show (2 : Int32) = nI 2 from rfl, pk_mul]
theorem ar_1200 (a : Nat) : (1200 : Int32) + nI a = nI (1200 + a) := by rw [show (1200 : Int32) = nI 1200 from rfl, nI_add]
theorem ar_1 (a : Nat) : nI a + (1 : Int32) = nI (a + 1) := nI_1 a
theorem ar_2 (a : Nat) : nI a + (2 : Int32) = nI (a + 2) := by rw [show (2 : Int32) = nI 2 from rfl, nI_add]
theorem ar_3 (a : Nat) : nI a + (3 : Int32) = nI (a + 3) := by rw [show (3 : Int32) = nI 3 from rfl, nI_add]
/-- what always holds of the reference's memory -/
def Jv (y : zMS) : Prop :=
  y_dk y ≤ 12 ∧ (y_nr y ≤ 24 ∧ y_nw y ≤ 300 ∧ y_nn y ≤ 600) ∧ (y_ms y ≤ y_cp y ∧ 256 ≤ y_cp y ∧ y_cp y ≤ 16384) ∧
  (∀ r, r < y_nr y → ∃ d, d < y_dk y ∧ y_do y r = nI d) ∧ (∀ w, w < y_nw y → y_ro y w < y_nr y) ∧
  (∀ t, t < 1204 → (y_kd y t = 0 ∨ y_kd y t = 1 ∨ y_kd y t = 2 ∨ y_kd y t = 3) ∧ y_mn y t ≤ 4) ∧
  (∀ m, m < y_ms y → y_fr y m < 12 ∧ y_tt y m < 12 ∧ (y_wh y m = -2 ∨ ∃ k, k < y_nn y ∧ y_wh y m = nI k)) ∧
  (∀ t j, y_gb y t j ≠ none → j < y_cp y) ∧ (∀ r, r < 24 → y_hm y r ≤ 600)
theorem Jv.dk {y : zMS} (h : Jv y) : y_dk y ≤ 12 := h.1
theorem Jv.lim {y : zMS} (h : Jv y) : y_nr y ≤ 24 ∧ y_nw y ≤ 300 ∧ y_nn y ≤ 600 := h.2.1
theorem Jv.cp {y : zMS} (h : Jv y) : y_ms y ≤ y_cp y ∧ 256 ≤ y_cp y ∧ y_cp y ≤ 16384 := h.2.2.1
theorem Jv.rdr {y : zMS} (h : Jv y) : ∀ r, r < y_nr y → ∃ d, d < y_dk y ∧ y_do y r = nI d := h.2.2.2.1
theorem Jv.ro {y : zMS} (h : Jv y) : ∀ w, w < y_nw y → y_ro y w < y_nr y := h.2.2.2.2.1
theorem Jv.ts {y : zMS} (h : Jv y) : ∀ t, t < 1204 → (y_kd y t = 0 ∨ y_kd y t = 1 ∨ y_kd y t = 2 ∨ y_kd y t = 3) ∧ y_mn y t ≤ 4 := h.2.2.2.2.2.1
theorem Jv.ms {y : zMS} (h : Jv y) : ∀ m, m < y_ms y → y_fr y m < 12 ∧ y_tt y m < 12 ∧ (y_wh y m = -2 ∨ ∃ k, k < y_nn y ∧ y_wh y m = nI k) := h.2.2.2.2.2.2.1
theorem Jv.gb {y : zMS} (h : Jv y) : ∀ t j, y_gb y t j ≠ none → j < y_cp y := h.2.2.2.2.2.2.2.1
theorem Jv.hm {y : zMS} (h : Jv y) : ∀ r, r < 24 → y_hm y r ≤ 600 := h.2.2.2.2.2.2.2.2
def T_Mo_isDesk (As : List zAV) (M : zMp) (Rt : Option zAV → zMp → Prop) : Prop := ∃ y d, As = [.inr (30, 0, 0), .inl (.int d)] ∧ M = mp y ∧ Rt (some (.inl (.int (zb (isn (y_dk y) d))))) M
abbrev co_Mo_isDesk := co0
theorem dX7_isDesk_0 : decode cX7_isDesk 0 = .ok (.iload_n 1, 1) := by decide +kernel
theorem dX7_isDesk_1 : decode cX7_isDesk 1 = .ok (.ifCond .lt 15, 3) := by decide +kernel
theorem dX7_isDesk_4 : decode cX7_isDesk 4 = .ok (.iload_n 1, 1) := by decide +kernel
theorem dX7_isDesk_5 : decode cX7_isDesk 5 = .ok (.aload_n 0, 1) := by decide +kernel
theorem dX7_isDesk_6 : decode cX7_isDesk 6 = .ok (.getfield 91, 3) := by decide +kernel
theorem dX7_isDesk_9 : decode cX7_isDesk 9 = .ok (.if_icmp .ge 7, 3) := by decide +kernel
theorem dX7_isDesk_12 : decode cX7_isDesk 12 = .ok (.iconst 1, 1) := by decide +kernel
theorem dX7_isDesk_13 : decode cX7_isDesk 13 = .ok (.goto 4, 3) := by decide +kernel
theorem dX7_isDesk_16 : decode cX7_isDesk 16 = .ok (.iconst 0, 1) := by decide +kernel
theorem dX7_isDesk_17 : decode cX7_isDesk 17 = .ok (.ireturn, 1) := by decide +kernel
def B_Mo_isDesk_17 (mc ms : Nat) (Rt : Option zAV → zMp → Prop) (g : Nat → zKT) : zKT :=
  (i_zret mc ms Rt)
set_option maxRecDepth 20000 in
theorem s_Mo_isDesk_17 {X : zMa} {mc ms : Nat} {Rt : Option zAV → zMp → Prop} (hC : zCx X RX7 cX7_isDesk 0 0 mc ms (some .boolean) false Rt) : zLe (B_Mo_isDesk_17 mc ms Rt (zG X)) (zG X 17) :=
  (sd_zret hC dX7_isDesk_17)
def B_Mo_isDesk_16 (mc ms : Nat) (Rt : Option zAV → zMp → Prop) (g : Nat → zKT) : zKT :=
  (i_ic 0 (B_Mo_isDesk_17 mc ms Rt g))
set_option maxRecDepth 20000 in
theorem s_Mo_isDesk_16 {X : zMa} {mc ms : Nat} {Rt : Option zAV → zMp → Prop} (hC : zCx X RX7 cX7_isDesk 0 0 mc ms (some .boolean) false Rt) : zLe (B_Mo_isDesk_16 mc ms Rt (zG X)) (zG X 16) :=
  (sd_iconst hC (by decide) dX7_isDesk_16 (s_Mo_isDesk_17 hC))
def B_Mo_isDesk_0 (mc ms : Nat) (Rt : Option zAV → zMp → Prop) (g : Nat → zKT) : zKT :=
  (i_il 1 (i_iflt (B_Mo_isDesk_16 mc ms Rt g) (i_il 1 (i_al 0 (i_gf 8 0 (i_icge (B_Mo_isDesk_16 mc ms Rt g) (i_ic 1 (B_Mo_isDesk_17 mc ms Rt g))))))))
set_option maxRecDepth 20000 in
theorem s_Mo_isDesk_0 {X : zMa} {mc ms : Nat} {Rt : Option zAV → zMp → Prop} (hC : zCx X RX7 cX7_isDesk 0 0 mc ms (some .boolean) false Rt) : zLe (B_Mo_isDesk_0 mc ms Rt (zG X)) (zG X 0) :=
  (sd_il_n hC rfl dX7_isDesk_0 ((sd_iflt hC (tgt := 16) (by decide) dX7_isDesk_1 (s_Mo_isDesk_16 hC) ((sd_il_n hC rfl dX7_isDesk_4 ((sd_al_n hC rfl dX7_isDesk_5 ((sd_gf hC (ci := 8) (fk := 0) rfl wi_Mo (by decide) fl_Mo_91 (Or.inl rfl) dX7_isDesk_6 ((sd_icge hC (tgt := 16) (by decide) dX7_isDesk_9 (s_Mo_isDesk_16 hC) ((sd_iconst hC (by decide) dX7_isDesk_12 ((sd_goto hC (tgt := 17) (by decide) dX7_isDesk_13 (s_Mo_isDesk_17 hC))))))))))))))))
theorem c_Mo_isDesk (l : Launch) : zCT l yX7_isDesk cX7_isDesk 2 (some .boolean) 0 0 T_Mo_isDesk co_Mo_isDesk := by
  intro As M Rt hT
  obtain ⟨y, d, rfl, rfl, hR⟩ := hT
  refine zMet_of false (by decide +kernel) (fun h => by first | rfl | cases h) (Nat.le_of_ble_eq_true rfl) (fun X hN hC => ?_)
  show zG X 0 [some (.inr (30, 0, 0)), some (.inl (.int d))] [] (mp y) 0 0
  refine s_Mo_isDesk_0 hC _ _ _ _ _ ?_
  simp only [B_Mo_isDesk_0, B_Mo_isDesk_16, B_Mo_isDesk_17, co_Mo_isDesk, i_ic, i_lc, i_nul, i_il, i_ll, i_al, i_is, i_as, i_ls, i_inc, i_iadd, i_isub, i_imul, i_iand, i_ior, i_ixor, i_idiv, i_irem, i_ishl, i_ishr, i_ladd, i_lsub, i_land, i_lor, i_i2l, i_lushr, i_lshl, i_lshr, i_lcmp, i_dup, i_pop, i_dx1, i_dup2, i_ifeq, i_ifne, i_iflt, i_ifge, i_ifgt, i_ifle, i_iceq, i_icne, i_iclt, i_icge, i_icgt, i_icle, i_ifn, i_gf, i_pf, i_ial, i_bal, i_lal, i_aal, i_ias, i_las, i_bas, i_aas, i_alen, i_newa, i_new, i_anew, i_cast, i_oi, i_call, i_callV, i_callV2, i_callI, i_iret, i_zret, i_lret, i_vret, i_aret, i_mmx, i_mmn, i_gsE, i_aceq, i_no, i_acq, i_sw, zsw, zlg, zls, znl, zfg, zcs, zsp, zrc, zisn, zft, zc1, zto, Value.category, List.set_cons_zero, List.set_cons_succ, List.length_cons, List.length_nil, Option.toList, List.append, List.nil_append, List.cons_append, true_and, and_true, Nat.add_zero, Nat.zero_le, Nat.zero_add, Nat.le_refl, Nat.reduceAdd, Nat.reduceLeDiff, co0, z0, zn_0, zn_1, zn_2, zn_3, zn_4, zn_5, zn_8, zn_12, zn_24, zn_121, zn_144, zn_256, zn_300, zn_600, zn_720, zn_1204, zn_1280, zn_2400, zn_4816, zn_14400, zn_90000, q_main, m_main]
  refine ⟨fun h => ⟨by decide, ?_⟩, fun h => ⟨fun h' => ⟨by decide, ?_⟩, fun h' => ⟨by decide, ?_⟩⟩⟩
  · rw [isn, zd_f (fun q => q.1 h)] at hR; exact hR
  · rw [isn, zd_f (fun q => absurd q.2 (Int32.not_lt.mpr h'))] at hR; exact hR
  · rw [isn, zd_t ⟨h, Int32.not_le.mp h'⟩] at hR; exact hR
def T_Mo_isWish (As : List zAV) (M : zMp) (Rt : Option zAV → zMp → Prop) : Prop := ∃ y d, As = [.inr (30, 0, 0), .inl (.int d)] ∧ M = mp y ∧ Rt (some (.inl (.int (zb (isn (y_nw y) d))))) M
abbrev co_Mo_isWish := co0
theorem dX7_isWish_0 : decode cX7_isWish 0 = .ok (.iload_n 1, 1) := by decide +kernel
theorem dX7_isWish_1 : decode cX7_isWish 1 = .ok (.ifCond .lt 15, 3) := by decide +kernel
theorem dX7_isWish_4 : decode cX7_isWish 4 = .ok (.iload_n 1, 1) := by decide +kernel
theorem dX7_isWish_5 : decode cX7_isWish 5 = .ok (.aload_n 0, 1) := by decide +kernel
theorem dX7_isWish_6 : decode cX7_isWish 6 = .ok (.getfield 95, 3) := by decide +kernel
theorem dX7_isWish_9 : decode cX7_isWish 9 = .ok (.if_icmp .ge 7, 3) := by decide +kernel
theorem dX7_isWish_12 : decode cX7_isWish 12 = .ok (.iconst 1, 1) := by decide +kernel
theorem dX7_isWish_13 : decode cX7_isWish 13 = .ok (.goto 4, 3) := by decide +kernel
theorem dX7_isWish_16 : decode cX7_isWish 16 = .ok (.iconst 0, 1) := by decide +kernel
theorem dX7_isWish_17 : decode cX7_isWish 17 = .ok (.ireturn, 1) := by decide +kernel
def B_Mo_isWish_17 (mc ms : Nat) (Rt : Option zAV → zMp → Prop) (g : Nat → zKT) : zKT :=
  (i_zret mc ms Rt)
set_option maxRecDepth 20000 in
theorem s_Mo_isWish_17 {X : zMa} {mc ms : Nat} {Rt : Option zAV → zMp → Prop} (hC : zCx X RX7 cX7_isWish 0 0 mc ms (some .boolean) false Rt) : zLe (B_Mo_isWish_17 mc ms Rt (zG X)) (zG X 17) :=
  (sd_zret hC dX7_isWish_17)
def B_Mo_isWish_16 (mc ms : Nat) (Rt : Option zAV → zMp → Prop) (g : Nat → zKT) : zKT :=
  (i_ic 0 (B_Mo_isWish_17 mc ms Rt g))
set_option maxRecDepth 20000 in
theorem s_Mo_isWish_16 {X : zMa} {mc ms : Nat} {Rt : Option zAV → zMp → Prop} (hC : zCx X RX7 cX7_isWish 0 0 mc ms (some .boolean) false Rt) : zLe (B_Mo_isWish_16 mc ms Rt (zG X)) (zG X 16) :=
  (sd_iconst hC (by decide) dX7_isWish_16 (s_Mo_isWish_17 hC))
def B_Mo_isWish_0 (mc ms : Nat) (Rt : Option zAV → zMp → Prop) (g : Nat → zKT) : zKT :=
  (i_il 1 (i_iflt (B_Mo_isWish_16 mc ms Rt g) (i_il 1 (i_al 0 (i_gf 8 2 (i_icge (B_Mo_isWish_16 mc ms Rt g) (i_ic 1 (B_Mo_isWish_17 mc ms Rt g))))))))
set_option maxRecDepth 20000 in
theorem s_Mo_isWish_0 {X : zMa} {mc ms : Nat} {Rt : Option zAV → zMp → Prop} (hC : zCx X RX7 cX7_isWish 0 0 mc ms (some .boolean) false Rt) : zLe (B_Mo_isWish_0 mc ms Rt (zG X)) (zG X 0) :=
  (sd_il_n hC rfl dX7_isWish_0 ((sd_iflt hC (tgt := 16) (by decide) dX7_isWish_1 (s_Mo_isWish_16 hC) ((sd_il_n hC rfl dX7_isWish_4 ((sd_al_n hC rfl dX7_isWish_5 ((sd_gf hC (ci := 8) (fk := 2) rfl wi_Mo (by decide) fl_Mo_95 (Or.inl rfl) dX7_isWish_6 ((sd_icge hC (tgt := 16) (by decide) dX7_isWish_9 (s_Mo_isWish_16 hC) ((sd_iconst hC (by decide) dX7_isWish_12 ((sd_goto hC (tgt := 17) (by decide) dX7_isWish_13 (s_Mo_isWish_17 hC))))))))))))))))
theorem c_Mo_isWish (l : Launch) : zCT l yX7_isWish cX7_isWish 2 (some .boolean) 0 0 T_Mo_isWish co_Mo_isWish := by
  intro As M Rt hT
  obtain ⟨y, d, rfl, rfl, hR⟩ := hT
  refine zMet_of false (by decide +kernel) (fun h => by first | rfl | cases h) (Nat.le_of_ble_eq_true rfl) (fun X hN hC => ?_)
  show zG X 0 [some (.inr (30, 0, 0)), some (.inl (.int d))] [] (mp y) 0 0
  refine s_Mo_isWish_0 hC _ _ _ _ _ ?_
  simp only [B_Mo_isWish_0, B_Mo_isWish_16, B_Mo_isWish_17, co_Mo_isWish, i_ic, i_lc, i_nul, i_il, i_ll, i_al, i_is, i_as, i_ls, i_inc, i_iadd, i_isub, i_imul, i_iand, i_ior, i_ixor, i_idiv, i_irem, i_ishl, i_ishr, i_ladd, i_lsub, i_land, i_lor, i_i2l, i_lushr, i_lshl, i_lshr, i_lcmp, i_dup, i_pop, i_dx1, i_dup2, i_ifeq, i_ifne, i_iflt, i_ifge, i_ifgt, i_ifle, i_iceq, i_icne, i_iclt, i_icge, i_icgt, i_icle, i_ifn, i_gf, i_pf, i_ial, i_bal, i_lal, i_aal, i_ias, i_las, i_bas, i_aas, i_alen, i_newa, i_new, i_anew, i_cast, i_oi, i_call, i_callV, i_callV2, i_callI, i_iret, i_zret, i_lret, i_vret, i_aret, i_mmx, i_mmn, i_gsE, i_aceq, i_no, i_acq, i_sw, zsw, zlg, zls, znl, zfg, zcs, zsp, zrc, zisn, zft, zc1, zto, Value.category, List.set_cons_zero, List.set_cons_succ, List.length_cons, List.length_nil, Option.toList, List.append, List.nil_append, List.cons_append, true_and, and_true, Nat.add_zero, Nat.zero_le, Nat.zero_add, Nat.le_refl, Nat.reduceAdd, Nat.reduceLeDiff, co0, z0, zn_0, zn_1, zn_2, zn_3, zn_4, zn_5, zn_8, zn_12, zn_24, zn_121, zn_144, zn_256, zn_300, zn_600, zn_720, zn_1204, zn_1280, zn_2400, zn_4816, zn_14400, zn_90000, q_main, m_main]
  refine ⟨fun h => ⟨by decide, ?_⟩, fun h => ⟨fun h' => ⟨by decide, ?_⟩, fun h' => ⟨by decide, ?_⟩⟩⟩
  · rw [isn, zd_f (fun q => q.1 h)] at hR; exact hR
  · rw [isn, zd_f (fun q => absurd q.2 (Int32.not_lt.mpr h'))] at hR; exact hR
  · rw [isn, zd_t ⟨h, Int32.not_le.mp h'⟩] at hR; exact hR
def T_Mo_isReader (As : List zAV) (M : zMp) (Rt : Option zAV → zMp → Prop) : Prop := ∃ y d, As = [.inr (30, 0, 0), .inl (.int d)] ∧ M = mp y ∧ Rt (some (.inl (.int (zb (isn (y_nr y) d))))) M
abbrev co_Mo_isReader := co0
theorem dX7_isReader_0 : decode cX7_isReader 0 = .ok (.iload_n 1, 1) := by decide +kernel
theorem dX7_isReader_1 : decode cX7_isReader 1 = .ok (.ifCond .lt 15, 3) := by decide +kernel
theorem dX7_isReader_4 : decode cX7_isReader 4 = .ok (.iload_n 1, 1) := by decide +kernel
theorem dX7_isReader_5 : decode cX7_isReader 5 = .ok (.aload_n 0, 1) := by decide +kernel
theorem dX7_isReader_6 : decode cX7_isReader 6 = .ok (.getfield 161, 3) := by decide +kernel
theorem dX7_isReader_9 : decode cX7_isReader 9 = .ok (.if_icmp .ge 7, 3) := by decide +kernel
theorem dX7_isReader_12 : decode cX7_isReader 12 = .ok (.iconst 1, 1) := by decide +kernel
theorem dX7_isReader_13 : decode cX7_isReader 13 = .ok (.goto 4, 3) := by decide +kernel
theorem dX7_isReader_16 : decode cX7_isReader 16 = .ok (.iconst 0, 1) := by decide +kernel
theorem dX7_isReader_17 : decode cX7_isReader 17 = .ok (.ireturn, 1) := by decide +kernel
def B_Mo_isReader_17 (mc ms : Nat) (Rt : Option zAV → zMp → Prop) (g : Nat → zKT) : zKT :=
  (i_zret mc ms Rt)
set_option maxRecDepth 20000 in
theorem s_Mo_isReader_17 {X : zMa} {mc ms : Nat} {Rt : Option zAV → zMp → Prop} (hC : zCx X RX7 cX7_isReader 0 0 mc ms (some .boolean) false Rt) : zLe (B_Mo_isReader_17 mc ms Rt (zG X)) (zG X 17) :=
  (sd_zret hC dX7_isReader_17)
def B_Mo_isReader_16 (mc ms : Nat) (Rt : Option zAV → zMp → Prop) (g : Nat → zKT) : zKT :=
  (i_ic 0 (B_Mo_isReader_17 mc ms Rt g))
set_option maxRecDepth 20000 in
theorem s_Mo_isReader_16 {X : zMa} {mc ms : Nat} {Rt : Option zAV → zMp → Prop} (hC : zCx X RX7 cX7_isReader 0 0 mc ms (some .boolean) false Rt) : zLe (B_Mo_isReader_16 mc ms Rt (zG X)) (zG X 16) :=
  (sd_iconst hC (by decide) dX7_isReader_16 (s_Mo_isReader_17 hC))
def B_Mo_isReader_0 (mc ms : Nat) (Rt : Option zAV → zMp → Prop) (g : Nat → zKT) : zKT :=
  (i_il 1 (i_iflt (B_Mo_isReader_16 mc ms Rt g) (i_il 1 (i_al 0 (i_gf 8 1 (i_icge (B_Mo_isReader_16 mc ms Rt g) (i_ic 1 (B_Mo_isReader_17 mc ms Rt g))))))))
set_option maxRecDepth 20000 in
theorem s_Mo_isReader_0 {X : zMa} {mc ms : Nat} {Rt : Option zAV → zMp → Prop} (hC : zCx X RX7 cX7_isReader 0 0 mc ms (some .boolean) false Rt) : zLe (B_Mo_isReader_0 mc ms Rt (zG X)) (zG X 0) :=
  (sd_il_n hC rfl dX7_isReader_0 ((sd_iflt hC (tgt := 16) (by decide) dX7_isReader_1 (s_Mo_isReader_16 hC) ((sd_il_n hC rfl dX7_isReader_4 ((sd_al_n hC rfl dX7_isReader_5 ((sd_gf hC (ci := 8) (fk := 1) rfl wi_Mo (by decide) fl_Mo_161 (Or.inl rfl) dX7_isReader_6 ((sd_icge hC (tgt := 16) (by decide) dX7_isReader_9 (s_Mo_isReader_16 hC) ((sd_iconst hC (by decide) dX7_isReader_12 ((sd_goto hC (tgt := 17) (by decide) dX7_isReader_13 (s_Mo_isReader_17 hC))))))))))))))))
theorem c_Mo_isReader (l : Launch) : zCT l yX7_isReader cX7_isReader 2 (some .boolean) 0 0 T_Mo_isReader co_Mo_isReader := by
  intro As M Rt hT
  obtain ⟨y, d, rfl, rfl, hR⟩ := hT
  refine zMet_of false (by decide +kernel) (fun h => by first | rfl | cases h) (Nat.le_of_ble_eq_true rfl) (fun X hN hC => ?_)
  show zG X 0 [some (.inr (30, 0, 0)), some (.inl (.int d))] [] (mp y) 0 0
  refine s_Mo_isReader_0 hC _ _ _ _ _ ?_
  simp only [B_Mo_isReader_0, B_Mo_isReader_16, B_Mo_isReader_17, co_Mo_isReader, i_ic, i_lc, i_nul, i_il, i_ll, i_al, i_is, i_as, i_ls, i_inc, i_iadd, i_isub, i_imul, i_iand, i_ior, i_ixor, i_idiv, i_irem, i_ishl, i_ishr, i_ladd, i_lsub, i_land, i_lor, i_i2l, i_lushr, i_lshl, i_lshr, i_lcmp, i_dup, i_pop, i_dx1, i_dup2, i_ifeq, i_ifne, i_iflt, i_ifge, i_ifgt, i_ifle, i_iceq, i_icne, i_iclt, i_icge, i_icgt, i_icle, i_ifn, i_gf, i_pf, i_ial, i_bal, i_lal, i_aal, i_ias, i_las, i_bas, i_aas, i_alen, i_newa, i_new, i_anew, i_cast, i_oi, i_call, i_callV, i_callV2, i_callI, i_iret, i_zret, i_lret, i_vret, i_aret, i_mmx, i_mmn, i_gsE, i_aceq, i_no, i_acq, i_sw, zsw, zlg, zls, znl, zfg, zcs, zsp, zrc, zisn, zft, zc1, zto, Value.category, List.set_cons_zero, List.set_cons_succ, List.length_cons, List.length_nil, Option.toList, List.append, List.nil_append, List.cons_append, true_and, and_true, Nat.add_zero, Nat.zero_le, Nat.zero_add, Nat.le_refl, Nat.reduceAdd, Nat.reduceLeDiff, co0, z0, zn_0, zn_1, zn_2, zn_3, zn_4, zn_5, zn_8, zn_12, zn_24, zn_121, zn_144, zn_256, zn_300, zn_600, zn_720, zn_1204, zn_1280, zn_2400, zn_4816, zn_14400, zn_90000, q_main, m_main]
  refine ⟨fun h => ⟨by decide, ?_⟩, fun h => ⟨fun h' => ⟨by decide, ?_⟩, fun h' => ⟨by decide, ?_⟩⟩⟩
  · rw [isn, zd_f (fun q => q.1 h)] at hR; exact hR
  · rw [isn, zd_f (fun q => absurd q.2 (Int32.not_lt.mpr h'))] at hR; exact hR
  · rw [isn, zd_t ⟨h, Int32.not_le.mp h'⟩] at hR; exact hR
theorem le3_lt4 {d : Int32} : ¬ 3 < d ↔ d < 4 := by
  rw [Int32.lt_iff_toInt_lt, Int32.lt_iff_toInt_lt]
  have h1 : (3 : Int32).toInt = 3 := by decide
  have h2 : (4 : Int32).toInt = 4 := by decide
  omega
def T_Mo_isField (As : List zAV) (M : zMp) (Rt : Option zAV → zMp → Prop) : Prop := ∃ d, As = [.inl (.int d)] ∧ Rt (some (.inl (.int (zb (isn 4 d))))) M
abbrev co_Mo_isField := co0
theorem dX7_isField_0 : decode cX7_isField 0 = .ok (.iload_n 0, 1) := by decide +kernel
theorem dX7_isField_1 : decode cX7_isField 1 = .ok (.ifCond .lt 12, 3) := by decide +kernel
theorem dX7_isField_4 : decode cX7_isField 4 = .ok (.iload_n 0, 1) := by decide +kernel
theorem dX7_isField_5 : decode cX7_isField 5 = .ok (.iconst 3, 1) := by decide +kernel
theorem dX7_isField_6 : decode cX7_isField 6 = .ok (.if_icmp .gt 7, 3) := by decide +kernel
theorem dX7_isField_9 : decode cX7_isField 9 = .ok (.iconst 1, 1) := by decide +kernel
theorem dX7_isField_10 : decode cX7_isField 10 = .ok (.goto 4, 3) := by decide +kernel
theorem dX7_isField_13 : decode cX7_isField 13 = .ok (.iconst 0, 1) := by decide +kernel
theorem dX7_isField_14 : decode cX7_isField 14 = .ok (.ireturn, 1) := by decide +kernel
def B_Mo_isField_14 (mc ms : Nat) (Rt : Option zAV → zMp → Prop) (g : Nat → zKT) : zKT :=
  (i_zret mc ms Rt)
set_option maxRecDepth 20000 in
theorem s_Mo_isField_14 {X : zMa} {mc ms : Nat} {Rt : Option zAV → zMp → Prop} (hC : zCx X RX7 cX7_isField 0 0 mc ms (some .boolean) false Rt) : zLe (B_Mo_isField_14 mc ms Rt (zG X)) (zG X 14) :=
  (sd_zret hC dX7_isField_14)
def B_Mo_isField_13 (mc ms : Nat) (Rt : Option zAV → zMp → Prop) (g : Nat → zKT) : zKT :=
  (i_ic 0 (B_Mo_isField_14 mc ms Rt g))
set_option maxRecDepth 20000 in
theorem s_Mo_isField_13 {X : zMa} {mc ms : Nat} {Rt : Option zAV → zMp → Prop} (hC : zCx X RX7 cX7_isField 0 0 mc ms (some .boolean) false Rt) : zLe (B_Mo_isField_13 mc ms Rt (zG X)) (zG X 13) :=
  (sd_iconst hC (by decide) dX7_isField_13 (s_Mo_isField_14 hC))
def B_Mo_isField_0 (mc ms : Nat) (Rt : Option zAV → zMp → Prop) (g : Nat → zKT) : zKT :=
  (i_il 0 (i_iflt (B_Mo_isField_13 mc ms Rt g) (i_il 0 (i_ic 3 (i_icgt (B_Mo_isField_13 mc ms Rt g) (i_ic 1 (B_Mo_isField_14 mc ms Rt g)))))))
set_option maxRecDepth 20000 in
theorem s_Mo_isField_0 {X : zMa} {mc ms : Nat} {Rt : Option zAV → zMp → Prop} (hC : zCx X RX7 cX7_isField 0 0 mc ms (some .boolean) false Rt) : zLe (B_Mo_isField_0 mc ms Rt (zG X)) (zG X 0) :=
  (sd_il_n hC rfl dX7_isField_0 ((sd_iflt hC (tgt := 13) (by decide) dX7_isField_1 (s_Mo_isField_13 hC) ((sd_il_n hC rfl dX7_isField_4 ((sd_iconst hC (by decide) dX7_isField_5 ((sd_icgt hC (tgt := 13) (by decide) dX7_isField_6 (s_Mo_isField_13 hC) ((sd_iconst hC (by decide) dX7_isField_9 ((sd_goto hC (tgt := 14) (by decide) dX7_isField_10 (s_Mo_isField_14 hC))))))))))))))
theorem c_Mo_isField (l : Launch) : zCT l yX7_isField cX7_isField 1 (some .boolean) 0 0 T_Mo_isField co_Mo_isField := by
  intro As M Rt hT
  obtain ⟨d, rfl, hR⟩ := hT
  refine zMet_of false (by decide +kernel) (fun h => by first | rfl | cases h) (Nat.le_of_ble_eq_true rfl) (fun X hN hC => ?_)
  show zG X 0 [some (.inl (.int d))] [] M 0 0
  refine s_Mo_isField_0 hC _ _ _ _ _ ?_
  simp only [B_Mo_isField_0, B_Mo_isField_13, B_Mo_isField_14, co_Mo_isField, i_ic, i_lc, i_nul, i_il, i_ll, i_al, i_is, i_as, i_ls, i_inc, i_iadd, i_isub, i_imul, i_iand, i_ior, i_ixor, i_idiv, i_irem, i_ishl, i_ishr, i_ladd, i_lsub, i_land, i_lor, i_i2l, i_lushr, i_lshl, i_lshr, i_lcmp, i_dup, i_pop, i_dx1, i_dup2, i_ifeq, i_ifne, i_iflt, i_ifge, i_ifgt, i_ifle, i_iceq, i_icne, i_iclt, i_icge, i_icgt, i_icle, i_ifn, i_gf, i_pf, i_ial, i_bal, i_lal, i_aal, i_ias, i_las, i_bas, i_aas, i_alen, i_newa, i_new, i_anew, i_cast, i_oi, i_call, i_callV, i_callV2, i_callI, i_iret, i_zret, i_lret, i_vret, i_aret, i_mmx, i_mmn, i_gsE, i_aceq, i_no, i_acq, i_sw, zsw, zlg, zls, znl, zfg, zcs, zsp, zrc, zisn, zft, zc1, zto, Value.category, List.set_cons_zero, List.set_cons_succ, List.length_cons, List.length_nil, Option.toList, List.append, List.nil_append, List.cons_append, true_and, and_true, Nat.add_zero, Nat.zero_le, Nat.zero_add, Nat.le_refl, Nat.reduceAdd, Nat.reduceLeDiff, co0, z0, zn_0, zn_1, zn_2, zn_3, zn_4, zn_5, zn_8, zn_12, zn_24, zn_121, zn_144, zn_256, zn_300, zn_600, zn_720, zn_1204, zn_1280, zn_2400, zn_4816, zn_14400, zn_90000]
  refine ⟨fun h => ⟨by decide, ?_⟩, fun h => ⟨fun h' => ⟨by decide, ?_⟩, fun h' => ⟨by decide, ?_⟩⟩⟩
  · rw [isn, zd_f (fun q => q.1 h)] at hR; exact hR
  · rw [isn, zd_f (fun q => (le3_lt4.mpr q.2) h')] at hR; exact hR
  · rw [isn, zd_t ⟨h, le3_lt4.mp h'⟩] at hR; exact hR
def T_Mo_isLinked (As : List zAV) (M : zMp) (Rt : Option zAV → zMp → Prop) : Prop := ∃ y u v, As = [.inr (30, 0, 0), .inl (.int (nI u)), .inl (.int (nI v))] ∧ M = mp y ∧ u < 12 ∧ v < 12 ∧ Rt (some (.inl (.int (zb (y_lk y (12 * u + v)))))) M
abbrev co_Mo_isLinked := co0
theorem dX7_isLinked_0 : decode cX7_isLinked 0 = .ok (.aload_n 0, 1) := by decide +kernel
theorem dX7_isLinked_1 : decode cX7_isLinked 1 = .ok (.getfield 9, 3) := by decide +kernel
theorem dX7_isLinked_4 : decode cX7_isLinked 4 = .ok (.bipush 12, 2) := by decide +kernel
theorem dX7_isLinked_6 : decode cX7_isLinked 6 = .ok (.iload_n 1, 1) := by decide +kernel
theorem dX7_isLinked_7 : decode cX7_isLinked 7 = .ok (.imul, 1) := by decide +kernel
theorem dX7_isLinked_8 : decode cX7_isLinked 8 = .ok (.iload_n 2, 1) := by decide +kernel
theorem dX7_isLinked_9 : decode cX7_isLinked 9 = .ok (.iadd, 1) := by decide +kernel
theorem dX7_isLinked_10 : decode cX7_isLinked 10 = .ok (.baload, 1) := by decide +kernel
theorem dX7_isLinked_11 : decode cX7_isLinked 11 = .ok (.ireturn, 1) := by decide +kernel
def B_Mo_isLinked_0 (mc ms : Nat) (Rt : Option zAV → zMp → Prop) (g : Nat → zKT) : zKT :=
  (i_al 0 (i_gf 8 4 (i_ic 12 (i_il 1 (i_imul (i_il 2 (i_iadd (i_bal (i_zret mc ms Rt)))))))))
set_option maxRecDepth 20000 in
theorem s_Mo_isLinked_0 {X : zMa} {mc ms : Nat} {Rt : Option zAV → zMp → Prop} (hC : zCx X RX7 cX7_isLinked 0 0 mc ms (some .boolean) false Rt) : zLe (B_Mo_isLinked_0 mc ms Rt (zG X)) (zG X 0) :=
  (sd_al_n hC rfl dX7_isLinked_0 ((sd_gf hC (ci := 8) (fk := 4) rfl wi_Mo (by decide) fl_Mo_9 (Or.inl rfl) dX7_isLinked_1 ((sd_bipush hC (by decide) dX7_isLinked_4 ((sd_il_n hC rfl dX7_isLinked_6 ((sd_imul hC dX7_isLinked_7 ((sd_il_n hC rfl dX7_isLinked_8 ((sd_iadd hC dX7_isLinked_9 ((sd_bal hC dX7_isLinked_10 ((sd_zret hC dX7_isLinked_11)))))))))))))))))
theorem c_Mo_isLinked (l : Launch) : zCT l yX7_isLinked cX7_isLinked 3 (some .boolean) 0 0 T_Mo_isLinked co_Mo_isLinked := by
  intro As M Rt hT
  obtain ⟨y, u, v, rfl, rfl, hu, hv, hR⟩ := hT
  refine zMet_of false (by decide +kernel) (fun h => by first | rfl | cases h) (Nat.le_of_ble_eq_true rfl) (fun X hN hC => ?_)
  show zG X 0 [some (.inr (30, 0, 0)), some (.inl (.int (nI u))), some (.inl (.int (nI v)))] [] (mp y) 0 0
  refine s_Mo_isLinked_0 hC _ _ _ _ _ ?_
  simp only [B_Mo_isLinked_0, co_Mo_isLinked, i_ic, i_lc, i_nul, i_il, i_ll, i_al, i_is, i_as, i_ls, i_inc, i_iadd, i_isub, i_imul, i_iand, i_ior, i_ixor, i_idiv, i_irem, i_ishl, i_ishr, i_ladd, i_lsub, i_land, i_lor, i_i2l, i_lushr, i_lshl, i_lshr, i_lcmp, i_dup, i_pop, i_dx1, i_dup2, i_ifeq, i_ifne, i_iflt, i_ifge, i_ifgt, i_ifle, i_iceq, i_icne, i_iclt, i_icge, i_icgt, i_icle, i_ifn, i_gf, i_pf, i_ial, i_bal, i_lal, i_aal, i_ias, i_las, i_bas, i_aas, i_alen, i_newa, i_new, i_anew, i_cast, i_oi, i_call, i_callV, i_callV2, i_callI, i_iret, i_zret, i_lret, i_vret, i_aret, i_mmx, i_mmn, i_gsE, i_aceq, i_no, i_acq, i_sw, zsw, zlg, zls, znl, zfg, zcs, zsp, zrc, zisn, zft, zc1, zto, Value.category, List.set_cons_zero, List.set_cons_succ, List.length_cons, List.length_nil, Option.toList, List.append, List.nil_append, List.cons_append, true_and, and_true, Nat.add_zero, Nat.zero_le, Nat.zero_add, Nat.le_refl, Nat.reduceAdd, Nat.reduceLeDiff, co0, z0, zn_0, zn_1, zn_2, zn_3, zn_4, zn_5, zn_8, zn_12, zn_24, zn_121, zn_144, zn_256, zn_300, zn_600, zn_720, zn_1204, zn_1280, zn_2400, zn_4816, zn_14400, zn_90000, q_main, m_main, q_lk, ar_4, ar_5, ar_12, ar_300, ar_600, ar_1200, ar_10, nI_add, ar_1, ar_2, ar_3, ar_2m]
  rw [nI_clamp (by omega)]
  exact ⟨vp_in_nI (by omega) (by decide), zb_01 _, hR⟩
def T_Mo_rowOf (As : List zAV) (M : zMp) (Rt : Option zAV → zMp → Prop) : Prop := ∃ u v, As = [.inl (.int (nI u)), .inl (.int (nI v))] ∧ Rt (some (.inl (.int (nI (5 * (12 * u + v)))))) M
abbrev co_Mo_rowOf := co0
theorem dX7_rowOf_0 : decode cX7_rowOf 0 = .ok (.iconst 5, 1) := by decide +kernel
theorem dX7_rowOf_1 : decode cX7_rowOf 1 = .ok (.bipush 12, 2) := by decide +kernel
theorem dX7_rowOf_3 : decode cX7_rowOf 3 = .ok (.iload_n 0, 1) := by decide +kernel
theorem dX7_rowOf_4 : decode cX7_rowOf 4 = .ok (.imul, 1) := by decide +kernel
theorem dX7_rowOf_5 : decode cX7_rowOf 5 = .ok (.iload_n 1, 1) := by decide +kernel
theorem dX7_rowOf_6 : decode cX7_rowOf 6 = .ok (.iadd, 1) := by decide +kernel
theorem dX7_rowOf_7 : decode cX7_rowOf 7 = .ok (.imul, 1) := by decide +kernel
theorem dX7_rowOf_8 : decode cX7_rowOf 8 = .ok (.ireturn, 1) := by decide +kernel
def B_Mo_rowOf_0 (mc ms : Nat) (Rt : Option zAV → zMp → Prop) (g : Nat → zKT) : zKT :=
  (i_ic 5 (i_ic 12 (i_il 0 (i_imul (i_il 1 (i_iadd (i_imul (i_iret mc ms Rt))))))))
set_option maxRecDepth 20000 in
theorem s_Mo_rowOf_0 {X : zMa} {mc ms : Nat} {Rt : Option zAV → zMp → Prop} (hC : zCx X RX7 cX7_rowOf 0 0 mc ms (some .int) false Rt) : zLe (B_Mo_rowOf_0 mc ms Rt (zG X)) (zG X 0) :=
  (sd_iconst hC (by decide) dX7_rowOf_0 ((sd_bipush hC (by decide) dX7_rowOf_1 ((sd_il_n hC rfl dX7_rowOf_3 ((sd_imul hC dX7_rowOf_4 ((sd_il_n hC rfl dX7_rowOf_5 ((sd_iadd hC dX7_rowOf_6 ((sd_imul hC dX7_rowOf_7 ((sd_iret hC dX7_rowOf_8)))))))))))))))
theorem c_Mo_rowOf (l : Launch) : zCT l yX7_rowOf cX7_rowOf 2 (some .int) 0 0 T_Mo_rowOf co_Mo_rowOf := by
  intro As M Rt hT
  obtain ⟨u, v, rfl, hR⟩ := hT
  refine zMet_of false (by decide +kernel) (fun h => by first | rfl | cases h) (Nat.le_of_ble_eq_true rfl) (fun X hN hC => ?_)
  show zG X 0 [some (.inl (.int (nI u))), some (.inl (.int (nI v)))] [] M 0 0
  refine s_Mo_rowOf_0 hC _ _ _ _ _ ?_
  simp only [B_Mo_rowOf_0, co_Mo_rowOf, i_ic, i_lc, i_nul, i_il, i_ll, i_al, i_is, i_as, i_ls, i_inc, i_iadd, i_isub, i_imul, i_iand, i_ior, i_ixor, i_idiv, i_irem, i_ishl, i_ishr, i_ladd, i_lsub, i_land, i_lor, i_i2l, i_lushr, i_lshl, i_lshr, i_lcmp, i_dup, i_pop, i_dx1, i_dup2, i_ifeq, i_ifne, i_iflt, i_ifge, i_ifgt, i_ifle, i_iceq, i_icne, i_iclt, i_icge, i_icgt, i_icle, i_ifn, i_gf, i_pf, i_ial, i_bal, i_lal, i_aal, i_ias, i_las, i_bas, i_aas, i_alen, i_newa, i_new, i_anew, i_cast, i_oi, i_call, i_callV, i_callV2, i_callI, i_iret, i_zret, i_lret, i_vret, i_aret, i_mmx, i_mmn, i_gsE, i_aceq, i_no, i_acq, i_sw, zsw, zlg, zls, znl, zfg, zcs, zsp, zrc, zisn, zft, zc1, zto, Value.category, List.set_cons_zero, List.set_cons_succ, List.length_cons, List.length_nil, Option.toList, List.append, List.nil_append, List.cons_append, true_and, and_true, Nat.add_zero, Nat.zero_le, Nat.zero_add, Nat.le_refl, Nat.reduceAdd, Nat.reduceLeDiff, co0, z0, zn_0, zn_1, zn_2, zn_3, zn_4, zn_5, zn_8, zn_12, zn_24, zn_121, zn_144, zn_256, zn_300, zn_600, zn_720, zn_1204, zn_1280, zn_2400, zn_4816, zn_14400, zn_90000, ar_4, ar_5, ar_12, ar_300, ar_600, ar_1200, ar_10, nI_add, ar_1, ar_2, ar_3, ar_2m]
  exact hR
theorem zbit_s (w : Int64) {j : Nat} (hj : j < 64) : ((w >>> ((nI j).toInt64 &&& 63)) &&& 1) = 1 ↔ w.toBitVec.getLsbD j = true := by
  rw [wb_c j hj, ← Int64.toBitVec_inj, Int64.toBitVec_and, Int64.toBitVec_shiftRight]
  show (w.toBitVec.sshiftRight ((lN j).toBitVec.smod 64).toNat) &&& 1#64 = 1#64 ↔ _
  rw [wb_tb, wb_sm j hj, BitVec.toNat_ofNat, Nat.mod_eq_of_lt (by omega)]
  constructor
  · intro h
    have t := congrArg (fun x => x.getLsbD 0) h
    simp only [BitVec.getLsbD_and, BitVec.getLsbD_sshiftRight] at t
    simpa [hj] using t
  · intro h
    apply BitVec.eq_of_getLsbD_eq
    intro i hi
    cases i with
    | zero => simp [BitVec.getLsbD_sshiftRight, h, hj]
    | succ i => simp
/-- the bits from place `at` on, as a row -/
def sh (f : Nat → Int64) (a : Nat) : Nat → Int64 := fun k => f (a + k)
def T_Mo_has (As : List zAV) (M : zMp) (Rt : Option zAV → zMp → Prop) : Prop := ∃ b n f a w, As = [.inr b, .inl (.int (nI a)), .inl (.int (nI w))] ∧ M b = some (zll n f) ∧ w < 300 ∧ a + 5 ≤ n ∧ n ≤ 100000 ∧ Rt (some (.inl (.int (zb (zbit (sh f a) w))))) M
abbrev co_Mo_has := co0
theorem dX7_has_0 : decode cX7_has 0 = .ok (.aload_n 0, 1) := by decide +kernel
theorem dX7_has_1 : decode cX7_has 1 = .ok (.iload_n 1, 1) := by decide +kernel
theorem dX7_has_2 : decode cX7_has 2 = .ok (.iload_n 2, 1) := by decide +kernel
theorem dX7_has_3 : decode cX7_has 3 = .ok (.bipush 64, 2) := by decide +kernel
theorem dX7_has_5 : decode cX7_has 5 = .ok (.idiv, 1) := by decide +kernel
theorem dX7_has_6 : decode cX7_has 6 = .ok (.iadd, 1) := by decide +kernel
theorem dX7_has_7 : decode cX7_has 7 = .ok (.laload, 1) := by decide +kernel
theorem dX7_has_8 : decode cX7_has 8 = .ok (.iload_n 2, 1) := by decide +kernel
theorem dX7_has_9 : decode cX7_has 9 = .ok (.bipush 64, 2) := by decide +kernel
theorem dX7_has_11 : decode cX7_has 11 = .ok (.irem, 1) := by decide +kernel
theorem dX7_has_12 : decode cX7_has 12 = .ok (.lshr, 1) := by decide +kernel
theorem dX7_has_13 : decode cX7_has 13 = .ok (.lconst 1, 1) := by decide +kernel
theorem dX7_has_14 : decode cX7_has 14 = .ok (.land, 1) := by decide +kernel
theorem dX7_has_15 : decode cX7_has 15 = .ok (.lconst 1, 1) := by decide +kernel
theorem dX7_has_16 : decode cX7_has 16 = .ok (.lcmp, 1) := by decide +kernel
theorem dX7_has_17 : decode cX7_has 17 = .ok (.ifCond .ne 7, 3) := by decide +kernel
theorem dX7_has_20 : decode cX7_has 20 = .ok (.iconst 1, 1) := by decide +kernel
theorem dX7_has_21 : decode cX7_has 21 = .ok (.goto 4, 3) := by decide +kernel
theorem dX7_has_24 : decode cX7_has 24 = .ok (.iconst 0, 1) := by decide +kernel
theorem dX7_has_25 : decode cX7_has 25 = .ok (.ireturn, 1) := by decide +kernel
def B_Mo_has_25 (mc ms : Nat) (Rt : Option zAV → zMp → Prop) (g : Nat → zKT) : zKT :=
  (i_zret mc ms Rt)
set_option maxRecDepth 20000 in
theorem s_Mo_has_25 {X : zMa} {mc ms : Nat} {Rt : Option zAV → zMp → Prop} (hC : zCx X RX7 cX7_has 0 0 mc ms (some .boolean) false Rt) : zLe (B_Mo_has_25 mc ms Rt (zG X)) (zG X 25) :=
  (sd_zret hC dX7_has_25)
def B_Mo_has_24 (mc ms : Nat) (Rt : Option zAV → zMp → Prop) (g : Nat → zKT) : zKT :=
  (i_ic 0 (B_Mo_has_25 mc ms Rt g))
set_option maxRecDepth 20000 in
theorem s_Mo_has_24 {X : zMa} {mc ms : Nat} {Rt : Option zAV → zMp → Prop} (hC : zCx X RX7 cX7_has 0 0 mc ms (some .boolean) false Rt) : zLe (B_Mo_has_24 mc ms Rt (zG X)) (zG X 24) :=
  (sd_iconst hC (by decide) dX7_has_24 (s_Mo_has_25 hC))
def B_Mo_has_0 (mc ms : Nat) (Rt : Option zAV → zMp → Prop) (g : Nat → zKT) : zKT :=
  (i_al 0 (i_il 1 (i_il 2 (i_ic 64 (i_idiv (i_iadd (i_lal (i_il 2 (i_ic 64 (i_irem (i_lshr (i_lc 1 (i_land (i_lc 1 (i_lcmp (i_ifne (B_Mo_has_24 mc ms Rt g) (i_ic 1 (B_Mo_has_25 mc ms Rt g))))))))))))))))))
set_option maxRecDepth 20000 in
theorem s_Mo_has_0 {X : zMa} {mc ms : Nat} {Rt : Option zAV → zMp → Prop} (hC : zCx X RX7 cX7_has 0 0 mc ms (some .boolean) false Rt) : zLe (B_Mo_has_0 mc ms Rt (zG X)) (zG X 0) :=
  (sd_al_n hC rfl dX7_has_0 ((sd_il_n hC rfl dX7_has_1 ((sd_il_n hC rfl dX7_has_2 ((sd_bipush hC (by decide) dX7_has_3 ((sd_idiv hC dX7_has_5 ((sd_iadd hC dX7_has_6 ((sd_lal hC dX7_has_7 ((sd_il_n hC rfl dX7_has_8 ((sd_bipush hC (by decide) dX7_has_9 ((sd_irem hC dX7_has_11 ((sd_lshr hC dX7_has_12 ((sd_lconst hC (by decide) dX7_has_13 ((sd_land hC dX7_has_14 ((sd_lconst hC (by decide) dX7_has_15 ((sd_lcmp hC dX7_has_16 ((sd_ifne hC (tgt := 24) (by decide) dX7_has_17 (s_Mo_has_24 hC) ((sd_iconst hC (by decide) dX7_has_20 ((sd_goto hC (tgt := 25) (by decide) dX7_has_21 (s_Mo_has_25 hC))))))))))))))))))))))))))))))))))))
theorem c_Mo_has (l : Launch) : zCT l yX7_has cX7_has 3 (some .boolean) 0 0 T_Mo_has co_Mo_has := by
  intro As M Rt hT
  obtain ⟨b, n, f, a, w, rfl, hb, hw, ha, hn, hR⟩ := hT
  refine zMet_of false (by decide +kernel) (fun h => by first | rfl | cases h) (Nat.le_of_ble_eq_true rfl) (fun X hN hC => ?_)
  show zG X 0 [some (.inr b), some (.inl (.int (nI a))), some (.inl (.int (nI w)))] [] M 0 0
  refine s_Mo_has_0 hC _ _ _ _ _ ?_
  simp only [B_Mo_has_0, B_Mo_has_24, B_Mo_has_25, co_Mo_has, i_ic, i_lc, i_nul, i_il, i_ll, i_al, i_is, i_as, i_ls, i_inc, i_iadd, i_isub, i_imul, i_iand, i_ior, i_ixor, i_idiv, i_irem, i_ishl, i_ishr, i_ladd, i_lsub, i_land, i_lor, i_i2l, i_lushr, i_lshl, i_lshr, i_lcmp, i_dup, i_pop, i_dx1, i_dup2, i_ifeq, i_ifne, i_iflt, i_ifge, i_ifgt, i_ifle, i_iceq, i_icne, i_iclt, i_icge, i_icgt, i_icle, i_ifn, i_gf, i_pf, i_ial, i_bal, i_lal, i_aal, i_ias, i_las, i_bas, i_aas, i_alen, i_newa, i_new, i_anew, i_cast, i_oi, i_call, i_callV, i_callV2, i_callI, i_iret, i_zret, i_lret, i_vret, i_aret, i_mmx, i_mmn, i_gsE, i_aceq, i_no, i_acq, i_sw, zsw, zlg, zls, znl, zfg, zcs, zsp, zrc, zisn, zft, zc1, zto, Value.category, List.set_cons_zero, List.set_cons_succ, List.length_cons, List.length_nil, Option.toList, List.append, List.nil_append, List.cons_append, true_and, and_true, Nat.add_zero, Nat.zero_le, Nat.zero_add, Nat.le_refl, Nat.reduceAdd, Nat.reduceLeDiff, co0, z0, zn_0, zn_1, zn_2, zn_3, zn_4, zn_5, zn_8, zn_12, zn_24, zn_121, zn_144, zn_256, zn_300, zn_600, zn_720, zn_1204, zn_1280, zn_2400, zn_4816, zn_14400, zn_90000, hb]
  have e1 : nI a + nI w / 64 = nI (a + w / 64) := by rw [nI_d64 (by omega), nI_add]
  rw [e1, nI_d64 (by omega), nI_r64 (by omega), nI_clamp (by omega), lg_cmp_eq, zbit_s _ (Nat.mod_lt _ (by decide))]
  refine ⟨by decide, vp_in_nI (by omega) (by omega), by decide, ?_⟩
  cases h : zbit (sh f a) w with
  | true =>
    rw [h] at hR
    exact ⟨fun q => absurd h q, fun _ => ⟨by decide, hR⟩⟩
  | false =>
    rw [h] at hR
    exact ⟨fun _ => ⟨by decide, hR⟩, fun q => absurd (h.symm.trans q) (by decide)⟩
/-! unread -/
def un_x (y : zMS) : Nat → zMS
  | 0 => y
  | n + 1 => v_mn (v_kd (un_x y n) (upd (y_kd (un_x y n)) (1200 + n) 0)) (va_up (y_mn (un_x y n)) (1200 + n) 0)
def T_Mo_unread (As : List zAV) (M : zMp) (Rt : Option zAV → zMp → Prop) : Prop := ∃ y, As = [.inr (30, 0, 0)] ∧ M = mp y ∧ Rt none (mp (un_x y 4))
abbrev co_Mo_unread := co0
theorem dX7_unread_0 : decode cX7_unread 0 = .ok (.iconst 0, 1) := by decide +kernel
theorem dX7_unread_1 : decode cX7_unread 1 = .ok (.istore_n 1, 1) := by decide +kernel
theorem dX7_unread_2 : decode cX7_unread 2 = .ok (.iload_n 1, 1) := by decide +kernel
theorem dX7_unread_3 : decode cX7_unread 3 = .ok (.iconst 4, 1) := by decide +kernel
theorem dX7_unread_4 : decode cX7_unread 4 = .ok (.if_icmp .ge 31, 3) := by decide +kernel
theorem dX7_unread_7 : decode cX7_unread 7 = .ok (.aload_n 0, 1) := by decide +kernel
theorem dX7_unread_8 : decode cX7_unread 8 = .ok (.getfield 23, 3) := by decide +kernel
theorem dX7_unread_11 : decode cX7_unread 11 = .ok (.sipush 1200, 3) := by decide +kernel
theorem dX7_unread_14 : decode cX7_unread 14 = .ok (.iload_n 1, 1) := by decide +kernel
theorem dX7_unread_15 : decode cX7_unread 15 = .ok (.iadd, 1) := by decide +kernel
theorem dX7_unread_16 : decode cX7_unread 16 = .ok (.iconst 0, 1) := by decide +kernel
theorem dX7_unread_17 : decode cX7_unread 17 = .ok (.iastore, 1) := by decide +kernel
theorem dX7_unread_18 : decode cX7_unread 18 = .ok (.aload_n 0, 1) := by decide +kernel
theorem dX7_unread_19 : decode cX7_unread 19 = .ok (.getfield 26, 3) := by decide +kernel
theorem dX7_unread_22 : decode cX7_unread 22 = .ok (.sipush 1200, 3) := by decide +kernel
theorem dX7_unread_25 : decode cX7_unread 25 = .ok (.iload_n 1, 1) := by decide +kernel
theorem dX7_unread_26 : decode cX7_unread 26 = .ok (.iadd, 1) := by decide +kernel
theorem dX7_unread_27 : decode cX7_unread 27 = .ok (.iconst 0, 1) := by decide +kernel
theorem dX7_unread_28 : decode cX7_unread 28 = .ok (.iastore, 1) := by decide +kernel
theorem dX7_unread_29 : decode cX7_unread 29 = .ok (.iinc 1 1, 3) := by decide +kernel
theorem dX7_unread_32 : decode cX7_unread 32 = .ok (.goto (-30), 3) := by decide +kernel
theorem dX7_unread_35 : decode cX7_unread 35 = .ok (.return_, 1) := by decide +kernel
def B_Mo_unread_35 (mc ms : Nat) (Rt : Option zAV → zMp → Prop) (g : Nat → zKT) : zKT :=
  (i_vret mc ms Rt)
set_option maxRecDepth 20000 in
theorem s_Mo_unread_35 {X : zMa} {mc ms : Nat} {Rt : Option zAV → zMp → Prop} (hC : zCx X RX7 cX7_unread 0 0 mc ms (none) false Rt) (hN : zNL X = 2) : zLe (B_Mo_unread_35 mc ms Rt (zG X)) (zG X 35) :=
  (sd_vret hC dX7_unread_35)
def B_Mo_unread_2 (mc ms : Nat) (Rt : Option zAV → zMp → Prop) (g : Nat → zKT) : zKT :=
  (i_il 1 (i_ic 4 (i_icge (B_Mo_unread_35 mc ms Rt g) (i_al 0 (i_gf 8 8 (i_ic 1200 (i_il 1 (i_iadd (i_ic 0 (i_ias (i_al 0 (i_gf 8 9 (i_ic 1200 (i_il 1 (i_iadd (i_ic 0 (i_ias (i_inc 1 1 (g 2)))))))))))))))))))
set_option maxRecDepth 20000 in
theorem s_Mo_unread_2 {X : zMa} {mc ms : Nat} {Rt : Option zAV → zMp → Prop} (hC : zCx X RX7 cX7_unread 0 0 mc ms (none) false Rt) (hN : zNL X = 2) : zLe (B_Mo_unread_2 mc ms Rt (zG X)) (zG X 2) :=
  (sd_il_n hC rfl dX7_unread_2 ((sd_iconst hC (by decide) dX7_unread_3 ((sd_icge hC (tgt := 35) (by decide) dX7_unread_4 (s_Mo_unread_35 hC hN) ((sd_al_n hC rfl dX7_unread_7 ((sd_gf hC (ci := 8) (fk := 8) rfl wi_Mo (by decide) fl_Mo_23 (Or.inl rfl) dX7_unread_8 ((sd_sipush hC (by decide) dX7_unread_11 ((sd_il_n hC rfl dX7_unread_14 ((sd_iadd hC dX7_unread_15 ((sd_iconst hC (by decide) dX7_unread_16 ((sd_ias hC dX7_unread_17 ((sd_al_n hC rfl dX7_unread_18 ((sd_gf hC (ci := 8) (fk := 9) rfl wi_Mo (by decide) fl_Mo_26 (Or.inl rfl) dX7_unread_19 ((sd_sipush hC (by decide) dX7_unread_22 ((sd_il_n hC rfl dX7_unread_25 ((sd_iadd hC dX7_unread_26 ((sd_iconst hC (by decide) dX7_unread_27 ((sd_ias hC dX7_unread_28 ((sd_inc hC (by decide) (by rw [hN]; decide) dX7_unread_29 ((sd_goto hC (tgt := 2) (by decide) dX7_unread_32 (zLe_rfl))))))))))))))))))))))))))))))))))))))
def B_Mo_unread_0 (mc ms : Nat) (Rt : Option zAV → zMp → Prop) (g : Nat → zKT) : zKT :=
  (i_ic 0 (i_is 1 (g 2)))
set_option maxRecDepth 20000 in
theorem s_Mo_unread_0 {X : zMa} {mc ms : Nat} {Rt : Option zAV → zMp → Prop} (hC : zCx X RX7 cX7_unread 0 0 mc ms (none) false Rt) (hN : zNL X = 2) : zLe (B_Mo_unread_0 mc ms Rt (zG X)) (zG X 0) :=
  (sd_iconst hC (by decide) dX7_unread_0 ((sd_is_n hC rfl (by rw [hN]; decide) dX7_unread_1 (zLe_rfl))))
theorem c_Mo_unread (l : Launch) : zCT l yX7_unread cX7_unread 2 (none) 0 0 T_Mo_unread co_Mo_unread := by
  intro As M Rt hT
  obtain ⟨y, rfl, rfl, hR⟩ := hT
  refine zMet_of false (by decide +kernel) (fun h => by first | rfl | cases h) (Nat.le_of_ble_eq_true rfl) (fun X hN hC => ?_)
  show zG X 0 [some (.inr (30, 0, 0)), none] [] (mp y) 0 0
  have loop := upto (N := 4) (P := fun i => zG X 2 [some (.inr (30, 0, 0)), some (.inl (.int (nI i)))] [] (mp (un_x y i)) 0 0) (fun i hi ih => by
    refine s_Mo_unread_2 hC hN _ _ _ _ _ ?_
    simp only [un_x] at ih
    generalize un_x y i = z at ih
    simp only [B_Mo_unread_0, B_Mo_unread_2, B_Mo_unread_35, co_Mo_unread, i_ic, i_lc, i_nul, i_il, i_ll, i_al, i_is, i_as, i_ls, i_inc, i_iadd, i_isub, i_imul, i_iand, i_ior, i_ixor, i_idiv, i_irem, i_ishl, i_ishr, i_ladd, i_lsub, i_land, i_lor, i_i2l, i_lushr, i_lshl, i_lshr, i_lcmp, i_dup, i_pop, i_dx1, i_dup2, i_ifeq, i_ifne, i_iflt, i_ifge, i_ifgt, i_ifle, i_iceq, i_icne, i_iclt, i_icge, i_icgt, i_icle, i_ifn, i_gf, i_pf, i_ial, i_bal, i_lal, i_aal, i_ias, i_las, i_bas, i_aas, i_alen, i_newa, i_new, i_anew, i_cast, i_oi, i_call, i_callV, i_callV2, i_callI, i_iret, i_zret, i_lret, i_vret, i_aret, i_mmx, i_mmn, i_gsE, i_aceq, i_no, i_acq, i_sw, zsw, zlg, zls, znl, zfg, zcs, zsp, zrc, zisn, zft, zc1, zto, Value.category, List.set_cons_zero, List.set_cons_succ, List.length_cons, List.length_nil, Option.toList, List.append, List.nil_append, List.cons_append, true_and, and_true, Nat.add_zero, Nat.zero_le, Nat.zero_add, Nat.le_refl, Nat.reduceAdd, Nat.reduceLeDiff, co0, z0, zn_0, zn_1, zn_2, zn_3, zn_4, zn_5, zn_8, zn_12, zn_24, zn_121, zn_144, zn_256, zn_300, zn_600, zn_720, zn_1204, zn_1280, zn_2400, zn_4816, zn_14400, zn_90000, q_main, m_main, q_kd, ar_4, ar_5, ar_12, ar_300, ar_600, ar_1200, ar_10, nI_add, ar_1, ar_2, ar_3, ar_2m]
    refine ⟨fun h => absurd ((zK (K := 4) (by decide) (n := i) (by omega)).2.1.mp h) (by omega), fun _ => ⟨m_k (by decide), vp_in_nI (by omega) (by decide), ?_⟩⟩
    rw [nI_clamp (by omega), mu_kd]
    simp only [i_ic, i_lc, i_nul, i_il, i_ll, i_al, i_is, i_as, i_ls, i_inc, i_iadd, i_isub, i_imul, i_iand, i_ior, i_ixor, i_idiv, i_irem, i_ishl, i_ishr, i_ladd, i_lsub, i_land, i_lor, i_i2l, i_lushr, i_lshl, i_lshr, i_lcmp, i_dup, i_pop, i_dx1, i_dup2, i_ifeq, i_ifne, i_iflt, i_ifge, i_ifgt, i_ifle, i_iceq, i_icne, i_iclt, i_icge, i_icgt, i_icle, i_ifn, i_gf, i_pf, i_ial, i_bal, i_lal, i_aal, i_ias, i_las, i_bas, i_aas, i_alen, i_newa, i_new, i_anew, i_cast, i_oi, i_call, i_callV, i_callV2, i_callI, i_iret, i_zret, i_lret, i_vret, i_aret, i_mmx, i_mmn, i_gsE, i_aceq, i_no, i_acq, i_sw, zsw, zlg, zls, znl, zfg, zcs, zsp, zrc, zisn, zft, zc1, zto, Value.category, List.set_cons_zero, List.set_cons_succ, List.length_cons, List.length_nil, Option.toList, List.append, List.nil_append, List.cons_append, true_and, and_true, Nat.add_zero, Nat.zero_le, Nat.zero_add, Nat.le_refl, Nat.reduceAdd, Nat.reduceLeDiff, co0, z0, zn_0, zn_1, zn_2, zn_3, zn_4, zn_5, zn_8, zn_12, zn_24, zn_121, zn_144, zn_256, zn_300, zn_600, zn_720, zn_1204, zn_1280, zn_2400, zn_4816, zn_14400, zn_90000, q_main, m_main, q_mn]
    refine ⟨m_k (by decide), vp_in_nI (by omega) (by decide), ?_⟩
    have e0 : (0 : Int32) = nI 0 := rfl
    rw [nI_clamp (by omega), e0, upd_nt, mu_mn]
    exact ih) (by
    refine s_Mo_unread_2 hC hN _ _ _ _ _ ?_
    simp only [B_Mo_unread_0, B_Mo_unread_2, B_Mo_unread_35, co_Mo_unread, i_ic, i_lc, i_nul, i_il, i_ll, i_al, i_is, i_as, i_ls, i_inc, i_iadd, i_isub, i_imul, i_iand, i_ior, i_ixor, i_idiv, i_irem, i_ishl, i_ishr, i_ladd, i_lsub, i_land, i_lor, i_i2l, i_lushr, i_lshl, i_lshr, i_lcmp, i_dup, i_pop, i_dx1, i_dup2, i_ifeq, i_ifne, i_iflt, i_ifge, i_ifgt, i_ifle, i_iceq, i_icne, i_iclt, i_icge, i_icgt, i_icle, i_ifn, i_gf, i_pf, i_ial, i_bal, i_lal, i_aal, i_ias, i_las, i_bas, i_aas, i_alen, i_newa, i_new, i_anew, i_cast, i_oi, i_call, i_callV, i_callV2, i_callI, i_iret, i_zret, i_lret, i_vret, i_aret, i_mmx, i_mmn, i_gsE, i_aceq, i_no, i_acq, i_sw, zsw, zlg, zls, znl, zfg, zcs, zsp, zrc, zisn, zft, zc1, zto, Value.category, List.set_cons_zero, List.set_cons_succ, List.length_cons, List.length_nil, Option.toList, List.append, List.nil_append, List.cons_append, true_and, and_true, Nat.add_zero, Nat.zero_le, Nat.zero_add, Nat.le_refl, Nat.reduceAdd, Nat.reduceLeDiff, co0, z0, zn_0, zn_1, zn_2, zn_3, zn_4, zn_5, zn_8, zn_12, zn_24, zn_121, zn_144, zn_256, zn_300, zn_600, zn_720, zn_1204, zn_1280, zn_2400, zn_4816, zn_14400, zn_90000]
    exact ⟨fun _ => hR, fun h => absurd (by decide) h⟩) 0 (Nat.zero_le _)
  refine s_Mo_unread_0 hC hN _ _ _ _ _ ?_
  simp only [B_Mo_unread_0, B_Mo_unread_2, B_Mo_unread_35, co_Mo_unread, i_ic, i_lc, i_nul, i_il, i_ll, i_al, i_is, i_as, i_ls, i_inc, i_iadd, i_isub, i_imul, i_iand, i_ior, i_ixor, i_idiv, i_irem, i_ishl, i_ishr, i_ladd, i_lsub, i_land, i_lor, i_i2l, i_lushr, i_lshl, i_lshr, i_lcmp, i_dup, i_pop, i_dx1, i_dup2, i_ifeq, i_ifne, i_iflt, i_ifge, i_ifgt, i_ifle, i_iceq, i_icne, i_iclt, i_icge, i_icgt, i_icle, i_ifn, i_gf, i_pf, i_ial, i_bal, i_lal, i_aal, i_ias, i_las, i_bas, i_aas, i_alen, i_newa, i_new, i_anew, i_cast, i_oi, i_call, i_callV, i_callV2, i_callI, i_iret, i_zret, i_lret, i_vret, i_aret, i_mmx, i_mmn, i_gsE, i_aceq, i_no, i_acq, i_sw, zsw, zlg, zls, znl, zfg, zcs, zsp, zrc, zisn, zft, zc1, zto, Value.category, List.set_cons_zero, List.set_cons_succ, List.length_cons, List.length_nil, Option.toList, List.append, List.nil_append, List.cons_append, true_and, and_true, Nat.add_zero, Nat.zero_le, Nat.zero_add, Nat.le_refl, Nat.reduceAdd, Nat.reduceLeDiff, co0, z0, zn_0, zn_1, zn_2, zn_3, zn_4, zn_5, zn_8, zn_12, zn_24, zn_121, zn_144, zn_256, zn_300, zn_600, zn_720, zn_1204, zn_1280, zn_2400, zn_4816, zn_14400, zn_90000]
  exact loop
/-! passes, isFit -/
/-- the numbers of a test -/
def y_g (y : zMS) (t : Nat) : Nat → Int32 := fun k => y_nu y (4 * t + k)
noncomputable def y_pass (y : zMS) (t : Nat) (v : Int32) : Bool := ft_pass (y_kd y t) (y_mn y t) (y_g y t) v
def y_tok (y : zMS) (t : Nat) : Prop := (y_kd y t = 0 ∨ y_kd y t = 1 ∨ y_kd y t = 2 ∨ y_kd y t = 3) ∧ y_mn y t ≤ 4
def T_Mo_passes (As : List zAV) (M : zMp) (Rt : Option zAV → zMp → Prop) : Prop := ∃ y t v, As = [.inr (30, 0, 0), .inl (.int (nI t)), .inl (.int v)] ∧ M = mp y ∧ t < 1204 ∧ y_tok y t ∧ Rt (some (.inl (.int (zb (y_pass y t v))))) M
abbrev co_Mo_passes := co0
theorem dX7_passes_0 : decode cX7_passes 0 = .ok (.aload_n 0, 1) := by decide +kernel
theorem dX7_passes_1 : decode cX7_passes 1 = .ok (.getfield 29, 3) := by decide +kernel
theorem dX7_passes_4 : decode cX7_passes 4 = .ok (.iconst 4, 1) := by decide +kernel
theorem dX7_passes_5 : decode cX7_passes 5 = .ok (.iload_n 1, 1) := by decide +kernel
theorem dX7_passes_6 : decode cX7_passes 6 = .ok (.imul, 1) := by decide +kernel
theorem dX7_passes_7 : decode cX7_passes 7 = .ok (.iaload, 1) := by decide +kernel
theorem dX7_passes_8 : decode cX7_passes 8 = .ok (.istore_n 3, 1) := by decide +kernel
theorem dX7_passes_9 : decode cX7_passes 9 = .ok (.aload_n 0, 1) := by decide +kernel
theorem dX7_passes_10 : decode cX7_passes 10 = .ok (.getfield 29, 3) := by decide +kernel
theorem dX7_passes_13 : decode cX7_passes 13 = .ok (.iconst 4, 1) := by decide +kernel
theorem dX7_passes_14 : decode cX7_passes 14 = .ok (.iload_n 1, 1) := by decide +kernel
theorem dX7_passes_15 : decode cX7_passes 15 = .ok (.imul, 1) := by decide +kernel
theorem dX7_passes_16 : decode cX7_passes 16 = .ok (.iconst 1, 1) := by decide +kernel
theorem dX7_passes_17 : decode cX7_passes 17 = .ok (.iadd, 1) := by decide +kernel
theorem dX7_passes_18 : decode cX7_passes 18 = .ok (.iaload, 1) := by decide +kernel
theorem dX7_passes_19 : decode cX7_passes 19 = .ok (.istore 4, 2) := by decide +kernel
theorem dX7_passes_21 : decode cX7_passes 21 = .ok (.aload_n 0, 1) := by decide +kernel
theorem dX7_passes_22 : decode cX7_passes 22 = .ok (.getfield 23, 3) := by decide +kernel
theorem dX7_passes_25 : decode cX7_passes 25 = .ok (.iload_n 1, 1) := by decide +kernel
theorem dX7_passes_26 : decode cX7_passes 26 = .ok (.iaload, 1) := by decide +kernel
theorem dX7_passes_27 : decode cX7_passes 27 = .ok (.tableswitch 61 0 2 #[25, 27, 44], 25) := by decide +kernel
theorem dX7_passes_52 : decode cX7_passes 52 = .ok (.iconst 1, 1) := by decide +kernel
theorem dX7_passes_53 : decode cX7_passes 53 = .ok (.ireturn, 1) := by decide +kernel
theorem dX7_passes_54 : decode cX7_passes 54 = .ok (.iload_n 2, 1) := by decide +kernel
theorem dX7_passes_55 : decode cX7_passes 55 = .ok (.iload_n 3, 1) := by decide +kernel
theorem dX7_passes_56 : decode cX7_passes 56 = .ok (.if_icmp .lt 13, 3) := by decide +kernel
theorem dX7_passes_59 : decode cX7_passes 59 = .ok (.iload_n 2, 1) := by decide +kernel
theorem dX7_passes_60 : decode cX7_passes 60 = .ok (.iload 4, 2) := by decide +kernel
theorem dX7_passes_62 : decode cX7_passes 62 = .ok (.if_icmp .gt 7, 3) := by decide +kernel
theorem dX7_passes_65 : decode cX7_passes 65 = .ok (.iconst 1, 1) := by decide +kernel
theorem dX7_passes_66 : decode cX7_passes 66 = .ok (.goto 4, 3) := by decide +kernel
theorem dX7_passes_69 : decode cX7_passes 69 = .ok (.iconst 0, 1) := by decide +kernel
theorem dX7_passes_70 : decode cX7_passes 70 = .ok (.ireturn, 1) := by decide +kernel
theorem dX7_passes_71 : decode cX7_passes 71 = .ok (.iload_n 2, 1) := by decide +kernel
theorem dX7_passes_72 : decode cX7_passes 72 = .ok (.iload_n 3, 1) := by decide +kernel
theorem dX7_passes_73 : decode cX7_passes 73 = .ok (.if_icmp .lt 9, 3) := by decide +kernel
theorem dX7_passes_76 : decode cX7_passes 76 = .ok (.iload_n 2, 1) := by decide +kernel
theorem dX7_passes_77 : decode cX7_passes 77 = .ok (.iload 4, 2) := by decide +kernel
theorem dX7_passes_79 : decode cX7_passes 79 = .ok (.if_icmp .le 7, 3) := by decide +kernel
theorem dX7_passes_82 : decode cX7_passes 82 = .ok (.iconst 1, 1) := by decide +kernel
theorem dX7_passes_83 : decode cX7_passes 83 = .ok (.goto 4, 3) := by decide +kernel
theorem dX7_passes_86 : decode cX7_passes 86 = .ok (.iconst 0, 1) := by decide +kernel
theorem dX7_passes_87 : decode cX7_passes 87 = .ok (.ireturn, 1) := by decide +kernel
theorem dX7_passes_88 : decode cX7_passes 88 = .ok (.iconst 0, 1) := by decide +kernel
theorem dX7_passes_89 : decode cX7_passes 89 = .ok (.istore 5, 2) := by decide +kernel
theorem dX7_passes_91 : decode cX7_passes 91 = .ok (.iload 5, 2) := by decide +kernel
theorem dX7_passes_93 : decode cX7_passes 93 = .ok (.aload_n 0, 1) := by decide +kernel
theorem dX7_passes_94 : decode cX7_passes 94 = .ok (.getfield 26, 3) := by decide +kernel
theorem dX7_passes_97 : decode cX7_passes 97 = .ok (.iload_n 1, 1) := by decide +kernel
theorem dX7_passes_98 : decode cX7_passes 98 = .ok (.iaload, 1) := by decide +kernel
theorem dX7_passes_99 : decode cX7_passes 99 = .ok (.if_icmp .ge 26, 3) := by decide +kernel
theorem dX7_passes_102 : decode cX7_passes 102 = .ok (.aload_n 0, 1) := by decide +kernel
theorem dX7_passes_103 : decode cX7_passes 103 = .ok (.getfield 29, 3) := by decide +kernel
theorem dX7_passes_106 : decode cX7_passes 106 = .ok (.iconst 4, 1) := by decide +kernel
theorem dX7_passes_107 : decode cX7_passes 107 = .ok (.iload_n 1, 1) := by decide +kernel
theorem dX7_passes_108 : decode cX7_passes 108 = .ok (.imul, 1) := by decide +kernel
theorem dX7_passes_109 : decode cX7_passes 109 = .ok (.iload 5, 2) := by decide +kernel
theorem dX7_passes_111 : decode cX7_passes 111 = .ok (.iadd, 1) := by decide +kernel
theorem dX7_passes_112 : decode cX7_passes 112 = .ok (.iaload, 1) := by decide +kernel
theorem dX7_passes_113 : decode cX7_passes 113 = .ok (.iload_n 2, 1) := by decide +kernel
theorem dX7_passes_114 : decode cX7_passes 114 = .ok (.if_icmp .ne 5, 3) := by decide +kernel
theorem dX7_passes_117 : decode cX7_passes 117 = .ok (.iconst 1, 1) := by decide +kernel
theorem dX7_passes_118 : decode cX7_passes 118 = .ok (.ireturn, 1) := by decide +kernel
theorem dX7_passes_119 : decode cX7_passes 119 = .ok (.iinc 5 1, 3) := by decide +kernel
theorem dX7_passes_122 : decode cX7_passes 122 = .ok (.goto (-31), 3) := by decide +kernel
theorem dX7_passes_125 : decode cX7_passes 125 = .ok (.iconst 0, 1) := by decide +kernel
theorem dX7_passes_126 : decode cX7_passes 126 = .ok (.ireturn, 1) := by decide +kernel
def B_Mo_passes_125 (mc ms : Nat) (Rt : Option zAV → zMp → Prop) (g : Nat → zKT) : zKT :=
  (i_ic 0 (i_zret mc ms Rt))
set_option maxRecDepth 20000 in
theorem s_Mo_passes_125 {X : zMa} {mc ms : Nat} {Rt : Option zAV → zMp → Prop} (hC : zCx X RX7 cX7_passes 0 0 mc ms (some .boolean) false Rt) (hN : zNL X = 6) : zLe (B_Mo_passes_125 mc ms Rt (zG X)) (zG X 125) :=
  (sd_iconst hC (by decide) dX7_passes_125 ((sd_zret hC dX7_passes_126)))
def B_Mo_passes_119 (mc ms : Nat) (Rt : Option zAV → zMp → Prop) (g : Nat → zKT) : zKT :=
  (i_inc 5 1 (g 91))
set_option maxRecDepth 20000 in
theorem s_Mo_passes_119 {X : zMa} {mc ms : Nat} {Rt : Option zAV → zMp → Prop} (hC : zCx X RX7 cX7_passes 0 0 mc ms (some .boolean) false Rt) (hN : zNL X = 6) : zLe (B_Mo_passes_119 mc ms Rt (zG X)) (zG X 119) :=
  (sd_inc hC (by decide) (by rw [hN]; decide) dX7_passes_119 ((sd_goto hC (tgt := 91) (by decide) dX7_passes_122 (zLe_rfl))))
def B_Mo_passes_91 (mc ms : Nat) (Rt : Option zAV → zMp → Prop) (g : Nat → zKT) : zKT :=
  (i_il 5 (i_al 0 (i_gf 8 9 (i_il 1 (i_ial (i_icge (B_Mo_passes_125 mc ms Rt g) (i_al 0 (i_gf 8 10 (i_ic 4 (i_il 1 (i_imul (i_il 5 (i_iadd (i_ial (i_il 2 (i_icne (B_Mo_passes_119 mc ms Rt g) (i_ic 1 (i_zret mc ms Rt))))))))))))))))))
set_option maxRecDepth 20000 in
theorem s_Mo_passes_91 {X : zMa} {mc ms : Nat} {Rt : Option zAV → zMp → Prop} (hC : zCx X RX7 cX7_passes 0 0 mc ms (some .boolean) false Rt) (hN : zNL X = 6) : zLe (B_Mo_passes_91 mc ms Rt (zG X)) (zG X 91) :=
  (sd_il hC dX7_passes_91 ((sd_al_n hC rfl dX7_passes_93 ((sd_gf hC (ci := 8) (fk := 9) rfl wi_Mo (by decide) fl_Mo_26 (Or.inl rfl) dX7_passes_94 ((sd_il_n hC rfl dX7_passes_97 ((sd_ial hC dX7_passes_98 ((sd_icge hC (tgt := 125) (by decide) dX7_passes_99 (s_Mo_passes_125 hC hN) ((sd_al_n hC rfl dX7_passes_102 ((sd_gf hC (ci := 8) (fk := 10) rfl wi_Mo (by decide) fl_Mo_29 (Or.inl rfl) dX7_passes_103 ((sd_iconst hC (by decide) dX7_passes_106 ((sd_il_n hC rfl dX7_passes_107 ((sd_imul hC dX7_passes_108 ((sd_il hC dX7_passes_109 ((sd_iadd hC dX7_passes_111 ((sd_ial hC dX7_passes_112 ((sd_il_n hC rfl dX7_passes_113 ((sd_icne hC (tgt := 119) (by decide) dX7_passes_114 (s_Mo_passes_119 hC hN) ((sd_iconst hC (by decide) dX7_passes_117 ((sd_zret hC dX7_passes_118)))))))))))))))))))))))))))))))))))
def B_Mo_passes_88 (mc ms : Nat) (Rt : Option zAV → zMp → Prop) (g : Nat → zKT) : zKT :=
  (i_ic 0 (i_is 5 (g 91)))
set_option maxRecDepth 20000 in
theorem s_Mo_passes_88 {X : zMa} {mc ms : Nat} {Rt : Option zAV → zMp → Prop} (hC : zCx X RX7 cX7_passes 0 0 mc ms (some .boolean) false Rt) (hN : zNL X = 6) : zLe (B_Mo_passes_88 mc ms Rt (zG X)) (zG X 88) :=
  (sd_iconst hC (by decide) dX7_passes_88 ((sd_is hC (by rw [hN]; decide) dX7_passes_89 (zLe_rfl))))
def B_Mo_passes_87 (mc ms : Nat) (Rt : Option zAV → zMp → Prop) (g : Nat → zKT) : zKT :=
  (i_zret mc ms Rt)
set_option maxRecDepth 20000 in
theorem s_Mo_passes_87 {X : zMa} {mc ms : Nat} {Rt : Option zAV → zMp → Prop} (hC : zCx X RX7 cX7_passes 0 0 mc ms (some .boolean) false Rt) (hN : zNL X = 6) : zLe (B_Mo_passes_87 mc ms Rt (zG X)) (zG X 87) :=
  (sd_zret hC dX7_passes_87)
def B_Mo_passes_86 (mc ms : Nat) (Rt : Option zAV → zMp → Prop) (g : Nat → zKT) : zKT :=
  (i_ic 0 (B_Mo_passes_87 mc ms Rt g))
set_option maxRecDepth 20000 in
theorem s_Mo_passes_86 {X : zMa} {mc ms : Nat} {Rt : Option zAV → zMp → Prop} (hC : zCx X RX7 cX7_passes 0 0 mc ms (some .boolean) false Rt) (hN : zNL X = 6) : zLe (B_Mo_passes_86 mc ms Rt (zG X)) (zG X 86) :=
  (sd_iconst hC (by decide) dX7_passes_86 (s_Mo_passes_87 hC hN))
def B_Mo_passes_82 (mc ms : Nat) (Rt : Option zAV → zMp → Prop) (g : Nat → zKT) : zKT :=
  (i_ic 1 (B_Mo_passes_87 mc ms Rt g))
set_option maxRecDepth 20000 in
theorem s_Mo_passes_82 {X : zMa} {mc ms : Nat} {Rt : Option zAV → zMp → Prop} (hC : zCx X RX7 cX7_passes 0 0 mc ms (some .boolean) false Rt) (hN : zNL X = 6) : zLe (B_Mo_passes_82 mc ms Rt (zG X)) (zG X 82) :=
  (sd_iconst hC (by decide) dX7_passes_82 ((sd_goto hC (tgt := 87) (by decide) dX7_passes_83 (s_Mo_passes_87 hC hN))))
def B_Mo_passes_71 (mc ms : Nat) (Rt : Option zAV → zMp → Prop) (g : Nat → zKT) : zKT :=
  (i_il 2 (i_il 3 (i_iclt (B_Mo_passes_82 mc ms Rt g) (i_il 2 (i_il 4 (i_icle (B_Mo_passes_86 mc ms Rt g) (B_Mo_passes_82 mc ms Rt g)))))))
set_option maxRecDepth 20000 in
theorem s_Mo_passes_71 {X : zMa} {mc ms : Nat} {Rt : Option zAV → zMp → Prop} (hC : zCx X RX7 cX7_passes 0 0 mc ms (some .boolean) false Rt) (hN : zNL X = 6) : zLe (B_Mo_passes_71 mc ms Rt (zG X)) (zG X 71) :=
  (sd_il_n hC rfl dX7_passes_71 ((sd_il_n hC rfl dX7_passes_72 ((sd_iclt hC (tgt := 82) (by decide) dX7_passes_73 (s_Mo_passes_82 hC hN) ((sd_il_n hC rfl dX7_passes_76 ((sd_il hC dX7_passes_77 ((sd_icle hC (tgt := 86) (by decide) dX7_passes_79 (s_Mo_passes_86 hC hN) (s_Mo_passes_82 hC hN))))))))))))
def B_Mo_passes_70 (mc ms : Nat) (Rt : Option zAV → zMp → Prop) (g : Nat → zKT) : zKT :=
  (i_zret mc ms Rt)
set_option maxRecDepth 20000 in
theorem s_Mo_passes_70 {X : zMa} {mc ms : Nat} {Rt : Option zAV → zMp → Prop} (hC : zCx X RX7 cX7_passes 0 0 mc ms (some .boolean) false Rt) (hN : zNL X = 6) : zLe (B_Mo_passes_70 mc ms Rt (zG X)) (zG X 70) :=
  (sd_zret hC dX7_passes_70)
def B_Mo_passes_69 (mc ms : Nat) (Rt : Option zAV → zMp → Prop) (g : Nat → zKT) : zKT :=
  (i_ic 0 (B_Mo_passes_70 mc ms Rt g))
set_option maxRecDepth 20000 in
theorem s_Mo_passes_69 {X : zMa} {mc ms : Nat} {Rt : Option zAV → zMp → Prop} (hC : zCx X RX7 cX7_passes 0 0 mc ms (some .boolean) false Rt) (hN : zNL X = 6) : zLe (B_Mo_passes_69 mc ms Rt (zG X)) (zG X 69) :=
  (sd_iconst hC (by decide) dX7_passes_69 (s_Mo_passes_70 hC hN))
def B_Mo_passes_54 (mc ms : Nat) (Rt : Option zAV → zMp → Prop) (g : Nat → zKT) : zKT :=
  (i_il 2 (i_il 3 (i_iclt (B_Mo_passes_69 mc ms Rt g) (i_il 2 (i_il 4 (i_icgt (B_Mo_passes_69 mc ms Rt g) (i_ic 1 (B_Mo_passes_70 mc ms Rt g))))))))
set_option maxRecDepth 20000 in
theorem s_Mo_passes_54 {X : zMa} {mc ms : Nat} {Rt : Option zAV → zMp → Prop} (hC : zCx X RX7 cX7_passes 0 0 mc ms (some .boolean) false Rt) (hN : zNL X = 6) : zLe (B_Mo_passes_54 mc ms Rt (zG X)) (zG X 54) :=
  (sd_il_n hC rfl dX7_passes_54 ((sd_il_n hC rfl dX7_passes_55 ((sd_iclt hC (tgt := 69) (by decide) dX7_passes_56 (s_Mo_passes_69 hC hN) ((sd_il_n hC rfl dX7_passes_59 ((sd_il hC dX7_passes_60 ((sd_icgt hC (tgt := 69) (by decide) dX7_passes_62 (s_Mo_passes_69 hC hN) ((sd_iconst hC (by decide) dX7_passes_65 ((sd_goto hC (tgt := 70) (by decide) dX7_passes_66 (s_Mo_passes_70 hC hN))))))))))))))))
def B_Mo_passes_52 (mc ms : Nat) (Rt : Option zAV → zMp → Prop) (g : Nat → zKT) : zKT :=
  (i_ic 1 (i_zret mc ms Rt))
set_option maxRecDepth 20000 in
theorem s_Mo_passes_52 {X : zMa} {mc ms : Nat} {Rt : Option zAV → zMp → Prop} (hC : zCx X RX7 cX7_passes 0 0 mc ms (some .boolean) false Rt) (hN : zNL X = 6) : zLe (B_Mo_passes_52 mc ms Rt (zG X)) (zG X 52) :=
  (sd_iconst hC (by decide) dX7_passes_52 ((sd_zret hC dX7_passes_53)))
def B_Mo_passes_0 (mc ms : Nat) (Rt : Option zAV → zMp → Prop) (g : Nat → zKT) : zKT :=
  (i_al 0 (i_gf 8 10 (i_ic 4 (i_il 1 (i_imul (i_ial (i_is 3 (i_al 0 (i_gf 8 10 (i_ic 4 (i_il 1 (i_imul (i_ic 1 (i_iadd (i_ial (i_is 4 (i_al 0 (i_gf 8 8 (i_il 1 (i_ial (i_sw [(0, (B_Mo_passes_52 mc ms Rt g)), (1, (B_Mo_passes_54 mc ms Rt g)), (2, (B_Mo_passes_71 mc ms Rt g))] (B_Mo_passes_88 mc ms Rt g))))))))))))))))))))))
set_option maxRecDepth 20000 in
theorem s_Mo_passes_0 {X : zMa} {mc ms : Nat} {Rt : Option zAV → zMp → Prop} (hC : zCx X RX7 cX7_passes 0 0 mc ms (some .boolean) false Rt) (hN : zNL X = 6) : zLe (B_Mo_passes_0 mc ms Rt (zG X)) (zG X 0) :=
  (sd_al_n hC rfl dX7_passes_0 ((sd_gf hC (ci := 8) (fk := 10) rfl wi_Mo (by decide) fl_Mo_29 (Or.inl rfl) dX7_passes_1 ((sd_iconst hC (by decide) dX7_passes_4 ((sd_il_n hC rfl dX7_passes_5 ((sd_imul hC dX7_passes_6 ((sd_ial hC dX7_passes_7 ((sd_is_n hC rfl (by rw [hN]; decide) dX7_passes_8 ((sd_al_n hC rfl dX7_passes_9 ((sd_gf hC (ci := 8) (fk := 10) rfl wi_Mo (by decide) fl_Mo_29 (Or.inl rfl) dX7_passes_10 ((sd_iconst hC (by decide) dX7_passes_13 ((sd_il_n hC rfl dX7_passes_14 ((sd_imul hC dX7_passes_15 ((sd_iconst hC (by decide) dX7_passes_16 ((sd_iadd hC dX7_passes_17 ((sd_ial hC dX7_passes_18 ((sd_is hC (by rw [hN]; decide) dX7_passes_19 ((sd_al_n hC rfl dX7_passes_21 ((sd_gf hC (ci := 8) (fk := 8) rfl wi_Mo (by decide) fl_Mo_23 (Or.inl rfl) dX7_passes_22 ((sd_il_n hC rfl dX7_passes_25 ((sd_ial hC dX7_passes_26 ((sd_tsw hC dX7_passes_27 (s_Mo_passes_88 hC hN) [52, 54, 71] rfl (by intro q hq; simp only [List.zip_cons_cons, List.zip_nil_right, List.mem_cons, List.not_mem_nil, or_false] at hq; rcases hq with rfl | rfl | rfl; exact ⟨(show zjT 27 61 0 2 #[25, 27, 44] 0 52 from Or.inr ⟨by decide, by decide, _, rfl, by decide⟩), s_Mo_passes_52 hC hN⟩; exact ⟨(show zjT 27 61 0 2 #[25, 27, 44] 1 54 from Or.inr ⟨by decide, by decide, _, rfl, by decide⟩), s_Mo_passes_54 hC hN⟩; exact ⟨(show zjT 27 61 0 2 #[25, 27, 44] 2 71 from Or.inr ⟨by decide, by decide, _, rfl, by decide⟩), s_Mo_passes_71 hC hN⟩) (by intro x hx; simp only [List.forall_mem_cons, List.not_mem_nil, false_imp_iff, implies_true, and_true] at hx; refine Or.inl ⟨?_, by decide⟩; obtain ⟨n0, n1, n2⟩ := hx; have n0 := zne_i (z := 0) n0 (by decide); have n1 := zne_i (z := 1) n1 (by decide); have n2 := zne_i (z := 2) n2 (by decide); omega))))))))))))))))))))))))))))))))))))))))))
theorem c_Mo_passes (l : Launch) : zCT l yX7_passes cX7_passes 6 (some .boolean) 0 0 T_Mo_passes co_Mo_passes := by
  intro As M Rt hT
  obtain ⟨y, t, v, rfl, rfl, ht, ⟨hk, hm⟩, hR⟩ := hT
  refine zMet_of false (by decide +kernel) (fun h => by first | rfl | cases h) (Nat.le_of_ble_eq_true rfl) (fun X hN hC => ?_)
  show zG X 0 [some (.inr (30, 0, 0)), some (.inl (.int (nI t))), some (.inl (.int v)), none, none, none] [] (mp y) 0 0
  unfold y_pass ft_pass at hR
  refine s_Mo_passes_0 hC hN _ _ _ _ _ ?_
  simp only [B_Mo_passes_0, B_Mo_passes_52, B_Mo_passes_54, B_Mo_passes_69, B_Mo_passes_70, B_Mo_passes_71, B_Mo_passes_82, B_Mo_passes_86, B_Mo_passes_87, B_Mo_passes_88, B_Mo_passes_91, B_Mo_passes_119, B_Mo_passes_125, co_Mo_passes, i_ic, i_lc, i_nul, i_il, i_ll, i_al, i_is, i_as, i_ls, i_inc, i_iadd, i_isub, i_imul, i_iand, i_ior, i_ixor, i_idiv, i_irem, i_ishl, i_ishr, i_ladd, i_lsub, i_land, i_lor, i_i2l, i_lushr, i_lshl, i_lshr, i_lcmp, i_dup, i_pop, i_dx1, i_dup2, i_ifeq, i_ifne, i_iflt, i_ifge, i_ifgt, i_ifle, i_iceq, i_icne, i_iclt, i_icge, i_icgt, i_icle, i_ifn, i_gf, i_pf, i_ial, i_bal, i_lal, i_aal, i_ias, i_las, i_bas, i_aas, i_alen, i_newa, i_new, i_anew, i_cast, i_oi, i_call, i_callV, i_callV2, i_callI, i_iret, i_zret, i_lret, i_vret, i_aret, i_mmx, i_mmn, i_gsE, i_aceq, i_no, i_acq, i_sw, zsw, zlg, zls, znl, zfg, zcs, zsp, zrc, zisn, zft, zc1, zto, Value.category, List.set_cons_zero, List.set_cons_succ, List.length_cons, List.length_nil, Option.toList, List.append, List.nil_append, List.cons_append, true_and, and_true, Nat.add_zero, Nat.zero_le, Nat.zero_add, Nat.le_refl, Nat.reduceAdd, Nat.reduceLeDiff, co0, z0, zn_0, zn_1, zn_2, zn_3, zn_4, zn_5, zn_8, zn_12, zn_24, zn_121, zn_144, zn_256, zn_300, zn_600, zn_720, zn_1204, zn_1280, zn_2400, zn_4816, zn_14400, zn_90000, q_main, m_main, q_nu, q_kd, ar_4, ar_5, ar_12, ar_300, ar_600, ar_1200, ar_10, nI_add, ar_1, ar_2, ar_3, ar_2m]
  rw [nI_clamp (by omega), nI_clamp (by omega), nI_clamp (by omega)]
  have eg0 : y_g y t 0 = y_nu y (4 * t) := rfl
  have eg1 : y_g y t 1 = y_nu y (4 * t + 1) := rfl
  refine ⟨vp_in_nI (by omega) (by decide), vp_in_nI (by omega) (by decide), vp_in_nI (by omega) (by decide), ?_⟩
  refine ⟨fun h0 => ⟨by decide, ?_⟩, fun n0 => ⟨fun h1 => ?_, fun n1 => ⟨fun h2 => ?_, fun n2 => ?_⟩⟩⟩
  · rw [h0] at hR
    exact hR
  · rw [if_pos h1, eg0, eg1] at hR
    refine ⟨fun q => ⟨by decide, ?_⟩, fun q => ⟨fun q2 => ⟨by decide, ?_⟩, fun q2 => ⟨by decide, ?_⟩⟩⟩
    · rw [zd_f (fun z => absurd q (Int32.not_lt.mpr z.1))] at hR; exact hR
    · rw [zd_f (fun z => absurd q2 (Int32.not_lt.mpr z.2))] at hR; exact hR
    · rw [zd_t ⟨Int32.not_lt.mp q, Int32.not_lt.mp q2⟩] at hR; exact hR
  · rw [if_neg n1, if_pos h2, eg0, eg1] at hR
    refine ⟨fun q => ⟨by decide, ?_⟩, fun q => ⟨fun q2 => ⟨by decide, ?_⟩, fun q2 => ⟨by decide, ?_⟩⟩⟩
    · rw [zd_t (Or.inl q)] at hR; exact hR
    · rw [zd_f (fun z => z.elim q (fun z2 => absurd z2 (Int32.not_lt.mpr q2)))] at hR; exact hR
    · rw [zd_t (Or.inr (Int32.not_le.mp q2))] at hR; exact hR
  · have h3 : y_kd y t = 3 := by rcases hk with h | h | h | h <;> first | exact absurd h n0 | exact absurd h n1 | exact absurd h n2 | exact h
    rw [if_neg n1, if_neg n2, if_pos h3] at hR
    have loop := upto (N := y_mn y t) (P := fun i => (∀ j, j < i → ¬ y_g y t j = v) → zG X 91 [some (.inr (30, 0, 0)), some (.inl (.int (nI t))), some (.inl (.int v)), some (.inl (.int (y_nu y (4 * t)))), some (.inl (.int (y_nu y (4 * t + 1)))), some (.inl (.int (nI i)))] [] (mp y) 0 0) (fun i hi ih hp => by
      refine s_Mo_passes_91 hC hN _ _ _ _ _ ?_
      simp only [B_Mo_passes_0, B_Mo_passes_52, B_Mo_passes_54, B_Mo_passes_69, B_Mo_passes_70, B_Mo_passes_71, B_Mo_passes_82, B_Mo_passes_86, B_Mo_passes_87, B_Mo_passes_88, B_Mo_passes_91, B_Mo_passes_119, B_Mo_passes_125, co_Mo_passes, i_ic, i_lc, i_nul, i_il, i_ll, i_al, i_is, i_as, i_ls, i_inc, i_iadd, i_isub, i_imul, i_iand, i_ior, i_ixor, i_idiv, i_irem, i_ishl, i_ishr, i_ladd, i_lsub, i_land, i_lor, i_i2l, i_lushr, i_lshl, i_lshr, i_lcmp, i_dup, i_pop, i_dx1, i_dup2, i_ifeq, i_ifne, i_iflt, i_ifge, i_ifgt, i_ifle, i_iceq, i_icne, i_iclt, i_icge, i_icgt, i_icle, i_ifn, i_gf, i_pf, i_ial, i_bal, i_lal, i_aal, i_ias, i_las, i_bas, i_aas, i_alen, i_newa, i_new, i_anew, i_cast, i_oi, i_call, i_callV, i_callV2, i_callI, i_iret, i_zret, i_lret, i_vret, i_aret, i_mmx, i_mmn, i_gsE, i_aceq, i_no, i_acq, i_sw, zsw, zlg, zls, znl, zfg, zcs, zsp, zrc, zisn, zft, zc1, zto, Value.category, List.set_cons_zero, List.set_cons_succ, List.length_cons, List.length_nil, Option.toList, List.append, List.nil_append, List.cons_append, true_and, and_true, Nat.add_zero, Nat.zero_le, Nat.zero_add, Nat.le_refl, Nat.reduceAdd, Nat.reduceLeDiff, co0, z0, zn_0, zn_1, zn_2, zn_3, zn_4, zn_5, zn_8, zn_12, zn_24, zn_121, zn_144, zn_256, zn_300, zn_600, zn_720, zn_1204, zn_1280, zn_2400, zn_4816, zn_14400, zn_90000, q_main, m_main, q_nu, q_mn, ar_4, ar_5, ar_12, ar_300, ar_600, ar_1200, ar_10, nI_add, ar_1, ar_2, ar_3, ar_2m]
      rw [nI_clamp (by omega), nI_clamp (by omega)]
      refine ⟨vp_in_nI (by omega) (by decide), fun h => absurd ((zK (K := y_mn y t) (by omega) (n := i) (by omega)).2.1.mp h) (by omega), fun _ => ⟨vp_in_nI (by omega) (by decide), fun hn => ih (lt_s hp hn), fun he => ⟨by decide, ?_⟩⟩⟩
      rw [ft_has, zd_t ⟨i, hi, he⟩] at hR
      exact hR) (fun hp => by
      refine s_Mo_passes_91 hC hN _ _ _ _ _ ?_
      simp only [B_Mo_passes_0, B_Mo_passes_52, B_Mo_passes_54, B_Mo_passes_69, B_Mo_passes_70, B_Mo_passes_71, B_Mo_passes_82, B_Mo_passes_86, B_Mo_passes_87, B_Mo_passes_88, B_Mo_passes_91, B_Mo_passes_119, B_Mo_passes_125, co_Mo_passes, i_ic, i_lc, i_nul, i_il, i_ll, i_al, i_is, i_as, i_ls, i_inc, i_iadd, i_isub, i_imul, i_iand, i_ior, i_ixor, i_idiv, i_irem, i_ishl, i_ishr, i_ladd, i_lsub, i_land, i_lor, i_i2l, i_lushr, i_lshl, i_lshr, i_lcmp, i_dup, i_pop, i_dx1, i_dup2, i_ifeq, i_ifne, i_iflt, i_ifge, i_ifgt, i_ifle, i_iceq, i_icne, i_iclt, i_icge, i_icgt, i_icle, i_ifn, i_gf, i_pf, i_ial, i_bal, i_lal, i_aal, i_ias, i_las, i_bas, i_aas, i_alen, i_newa, i_new, i_anew, i_cast, i_oi, i_call, i_callV, i_callV2, i_callI, i_iret, i_zret, i_lret, i_vret, i_aret, i_mmx, i_mmn, i_gsE, i_aceq, i_no, i_acq, i_sw, zsw, zlg, zls, znl, zfg, zcs, zsp, zrc, zisn, zft, zc1, zto, Value.category, List.set_cons_zero, List.set_cons_succ, List.length_cons, List.length_nil, Option.toList, List.append, List.nil_append, List.cons_append, true_and, and_true, Nat.add_zero, Nat.zero_le, Nat.zero_add, Nat.le_refl, Nat.reduceAdd, Nat.reduceLeDiff, co0, z0, zn_0, zn_1, zn_2, zn_3, zn_4, zn_5, zn_8, zn_12, zn_24, zn_121, zn_144, zn_256, zn_300, zn_600, zn_720, zn_1204, zn_1280, zn_2400, zn_4816, zn_14400, zn_90000, q_main, m_main, q_nu, q_mn, ar_4, ar_5, ar_12, ar_300, ar_600, ar_1200, ar_10, nI_add, ar_1, ar_2, ar_3, ar_2m]
      rw [nI_clamp (by omega)]
      refine ⟨vp_in_nI (by omega) (by decide), fun _ => ⟨by decide, ?_⟩, fun h => absurd ((zK (K := y_mn y t) (by omega) (n := y_mn y t) (by omega)).2.1.mpr (Nat.le_refl _)) h⟩
      rw [ft_has, zd_f (fun ⟨i, hi, he⟩ => hp i hi he)] at hR
      exact hR) 0 (Nat.zero_le _)
    exact loop (fun j hj => absurd hj (Nat.not_lt_zero j))
noncomputable def y_fit (y : zMS) (w : Nat) (g : Nat → Int32) : Bool := zd (∀ f, f < 4 → y_pass y (4 * w + f) (g f) = true)
def T_Mo_isFit (As : List zAV) (M : zMp) (Rt : Option zAV → zMp → Prop) : Prop := ∃ y w a b c d, As = [.inr (30, 0, 0), .inl (.int (nI w)), .inl (.int a), .inl (.int b), .inl (.int c), .inl (.int d)] ∧ M = mp y ∧ w < 300 ∧ Jv y ∧ Rt (some (.inl (.int (zb (y_fit y w (zf4 a b c d)))))) M
abbrev co_Mo_isFit := co0
theorem dX7_isFit_0 : decode cX7_isFit 0 = .ok (.aload_n 0, 1) := by decide +kernel
theorem dX7_isFit_1 : decode cX7_isFit 1 = .ok (.iconst 4, 1) := by decide +kernel
theorem dX7_isFit_2 : decode cX7_isFit 2 = .ok (.iload_n 1, 1) := by decide +kernel
theorem dX7_isFit_3 : decode cX7_isFit 3 = .ok (.imul, 1) := by decide +kernel
theorem dX7_isFit_4 : decode cX7_isFit 4 = .ok (.iload_n 2, 1) := by decide +kernel
theorem dX7_isFit_5 : decode cX7_isFit 5 = .ok (.invokevirtual 98, 3) := by decide +kernel
theorem dX7_isFit_8 : decode cX7_isFit 8 = .ok (.ifCond .eq 48, 3) := by decide +kernel
theorem dX7_isFit_11 : decode cX7_isFit 11 = .ok (.aload_n 0, 1) := by decide +kernel
theorem dX7_isFit_12 : decode cX7_isFit 12 = .ok (.iconst 4, 1) := by decide +kernel
theorem dX7_isFit_13 : decode cX7_isFit 13 = .ok (.iload_n 1, 1) := by decide +kernel
theorem dX7_isFit_14 : decode cX7_isFit 14 = .ok (.imul, 1) := by decide +kernel
theorem dX7_isFit_15 : decode cX7_isFit 15 = .ok (.iconst 1, 1) := by decide +kernel
theorem dX7_isFit_16 : decode cX7_isFit 16 = .ok (.iadd, 1) := by decide +kernel
theorem dX7_isFit_17 : decode cX7_isFit 17 = .ok (.iload_n 3, 1) := by decide +kernel
theorem dX7_isFit_18 : decode cX7_isFit 18 = .ok (.invokevirtual 98, 3) := by decide +kernel
theorem dX7_isFit_21 : decode cX7_isFit 21 = .ok (.ifCond .eq 35, 3) := by decide +kernel
theorem dX7_isFit_24 : decode cX7_isFit 24 = .ok (.aload_n 0, 1) := by decide +kernel
theorem dX7_isFit_25 : decode cX7_isFit 25 = .ok (.iconst 4, 1) := by decide +kernel
theorem dX7_isFit_26 : decode cX7_isFit 26 = .ok (.iload_n 1, 1) := by decide +kernel
theorem dX7_isFit_27 : decode cX7_isFit 27 = .ok (.imul, 1) := by decide +kernel
theorem dX7_isFit_28 : decode cX7_isFit 28 = .ok (.iconst 2, 1) := by decide +kernel
theorem dX7_isFit_29 : decode cX7_isFit 29 = .ok (.iadd, 1) := by decide +kernel
theorem dX7_isFit_30 : decode cX7_isFit 30 = .ok (.iload 4, 2) := by decide +kernel
theorem dX7_isFit_32 : decode cX7_isFit 32 = .ok (.invokevirtual 98, 3) := by decide +kernel
theorem dX7_isFit_35 : decode cX7_isFit 35 = .ok (.ifCond .eq 21, 3) := by decide +kernel
theorem dX7_isFit_38 : decode cX7_isFit 38 = .ok (.aload_n 0, 1) := by decide +kernel
theorem dX7_isFit_39 : decode cX7_isFit 39 = .ok (.iconst 4, 1) := by decide +kernel
theorem dX7_isFit_40 : decode cX7_isFit 40 = .ok (.iload_n 1, 1) := by decide +kernel
theorem dX7_isFit_41 : decode cX7_isFit 41 = .ok (.imul, 1) := by decide +kernel
theorem dX7_isFit_42 : decode cX7_isFit 42 = .ok (.iconst 3, 1) := by decide +kernel
theorem dX7_isFit_43 : decode cX7_isFit 43 = .ok (.iadd, 1) := by decide +kernel
theorem dX7_isFit_44 : decode cX7_isFit 44 = .ok (.iload 5, 2) := by decide +kernel
theorem dX7_isFit_46 : decode cX7_isFit 46 = .ok (.invokevirtual 98, 3) := by decide +kernel
theorem dX7_isFit_49 : decode cX7_isFit 49 = .ok (.ifCond .eq 7, 3) := by decide +kernel
theorem dX7_isFit_52 : decode cX7_isFit 52 = .ok (.iconst 1, 1) := by decide +kernel
theorem dX7_isFit_53 : decode cX7_isFit 53 = .ok (.goto 4, 3) := by decide +kernel
theorem dX7_isFit_56 : decode cX7_isFit 56 = .ok (.iconst 0, 1) := by decide +kernel
theorem dX7_isFit_57 : decode cX7_isFit 57 = .ok (.ireturn, 1) := by decide +kernel
def B_Mo_isFit_57 (mc ms : Nat) (Rt : Option zAV → zMp → Prop) (g : Nat → zKT) : zKT :=
  (i_zret mc ms Rt)
set_option maxRecDepth 20000 in
theorem s_Mo_isFit_57 {X : zMa} {mc ms : Nat} {Rt : Option zAV → zMp → Prop} (hC : zCx X RX7 cX7_isFit 1 25 mc ms (some .boolean) false Rt) : zLe (B_Mo_isFit_57 mc ms Rt (zG X)) (zG X 57) :=
  (sd_zret hC dX7_isFit_57)
def B_Mo_isFit_56 (mc ms : Nat) (Rt : Option zAV → zMp → Prop) (g : Nat → zKT) : zKT :=
  (i_ic 0 (B_Mo_isFit_57 mc ms Rt g))
set_option maxRecDepth 20000 in
theorem s_Mo_isFit_56 {X : zMa} {mc ms : Nat} {Rt : Option zAV → zMp → Prop} (hC : zCx X RX7 cX7_isFit 1 25 mc ms (some .boolean) false Rt) : zLe (B_Mo_isFit_56 mc ms Rt (zG X)) (zG X 56) :=
  (sd_iconst hC (by decide) dX7_isFit_56 (s_Mo_isFit_57 hC))
def B_Mo_isFit_0 (mc ms : Nat) (Rt : Option zAV → zMp → Prop) (g : Nat → zKT) : zKT :=
  (i_al 0 (i_ic 4 (i_il 1 (i_imul (i_il 2 (i_callV mc ms 8 3 T_Mo_passes co_Mo_passes (i_ifeq (B_Mo_isFit_56 mc ms Rt g) (i_al 0 (i_ic 4 (i_il 1 (i_imul (i_ic 1 (i_iadd (i_il 3 (i_callV mc ms 8 3 T_Mo_passes co_Mo_passes (i_ifeq (B_Mo_isFit_56 mc ms Rt g) (i_al 0 (i_ic 4 (i_il 1 (i_imul (i_ic 2 (i_iadd (i_il 4 (i_callV mc ms 8 3 T_Mo_passes co_Mo_passes (i_ifeq (B_Mo_isFit_56 mc ms Rt g) (i_al 0 (i_ic 4 (i_il 1 (i_imul (i_ic 3 (i_iadd (i_il 5 (i_callV mc ms 8 3 T_Mo_passes co_Mo_passes (i_ifeq (B_Mo_isFit_56 mc ms Rt g) (i_ic 1 (B_Mo_isFit_57 mc ms Rt g))))))))))))))))))))))))))))))))))))
set_option maxRecDepth 20000 in
theorem s_Mo_isFit_0 {X : zMa} {mc ms : Nat} {Rt : Option zAV → zMp → Prop} (hC : zCx X RX7 cX7_isFit 1 25 mc ms (some .boolean) false Rt) : zLe (B_Mo_isFit_0 mc ms Rt (zG X)) (zG X 0) :=
  (sd_al_n hC rfl dX7_isFit_0 ((sd_iconst hC (by decide) dX7_isFit_1 ((sd_il_n hC rfl dX7_isFit_2 ((sd_imul hC dX7_isFit_3 ((sd_il_n hC rfl dX7_isFit_4 ((sd_cV hC c_Mo_passes yv_Mo_passes (ci := 8) rfl rfl ml_Mo_98 (by decide) (by decide) dX7_isFit_5 ((sd_ifeq hC (tgt := 56) (by decide) dX7_isFit_8 (s_Mo_isFit_56 hC) ((sd_al_n hC rfl dX7_isFit_11 ((sd_iconst hC (by decide) dX7_isFit_12 ((sd_il_n hC rfl dX7_isFit_13 ((sd_imul hC dX7_isFit_14 ((sd_iconst hC (by decide) dX7_isFit_15 ((sd_iadd hC dX7_isFit_16 ((sd_il_n hC rfl dX7_isFit_17 ((sd_cV hC c_Mo_passes yv_Mo_passes (ci := 8) rfl rfl ml_Mo_98 (by decide) (by decide) dX7_isFit_18 ((sd_ifeq hC (tgt := 56) (by decide) dX7_isFit_21 (s_Mo_isFit_56 hC) ((sd_al_n hC rfl dX7_isFit_24 ((sd_iconst hC (by decide) dX7_isFit_25 ((sd_il_n hC rfl dX7_isFit_26 ((sd_imul hC dX7_isFit_27 ((sd_iconst hC (by decide) dX7_isFit_28 ((sd_iadd hC dX7_isFit_29 ((sd_il hC dX7_isFit_30 ((sd_cV hC c_Mo_passes yv_Mo_passes (ci := 8) rfl rfl ml_Mo_98 (by decide) (by decide) dX7_isFit_32 ((sd_ifeq hC (tgt := 56) (by decide) dX7_isFit_35 (s_Mo_isFit_56 hC) ((sd_al_n hC rfl dX7_isFit_38 ((sd_iconst hC (by decide) dX7_isFit_39 ((sd_il_n hC rfl dX7_isFit_40 ((sd_imul hC dX7_isFit_41 ((sd_iconst hC (by decide) dX7_isFit_42 ((sd_iadd hC dX7_isFit_43 ((sd_il hC dX7_isFit_44 ((sd_cV hC c_Mo_passes yv_Mo_passes (ci := 8) rfl rfl ml_Mo_98 (by decide) (by decide) dX7_isFit_46 ((sd_ifeq hC (tgt := 56) (by decide) dX7_isFit_49 (s_Mo_isFit_56 hC) ((sd_iconst hC (by decide) dX7_isFit_52 ((sd_goto hC (tgt := 57) (by decide) dX7_isFit_53 (s_Mo_isFit_57 hC))))))))))))))))))))))))))))))))))))))))))))))))))))))))))))))))))))))))
theorem c_Mo_isFit (l : Launch) : zCT l yX7_isFit cX7_isFit 6 (some .boolean) 1 25 T_Mo_isFit co_Mo_isFit := by
  intro As M Rt hT
  obtain ⟨y, w, a, b, c, d, rfl, rfl, hw, hJ, hR⟩ := hT
  have h4 : ∀ f, f < 4 → y_tok y (4 * w + f) := fun f hf => hJ.ts _ (by omega)
  refine zMet_of false (by decide +kernel) (fun h => by first | rfl | cases h) (Nat.le_of_ble_eq_true rfl) (fun X hN hC => ?_)
  show zG X 0 [some (.inr (30, 0, 0)), some (.inl (.int (nI w))), some (.inl (.int a)), some (.inl (.int b)), some (.inl (.int c)), some (.inl (.int d))] [] (mp y) 0 0
  refine s_Mo_isFit_0 hC _ _ _ _ _ ?_
  simp only [B_Mo_isFit_0, B_Mo_isFit_56, B_Mo_isFit_57, co_Mo_isFit, co_Mo_passes, i_ic, i_lc, i_nul, i_il, i_ll, i_al, i_is, i_as, i_ls, i_inc, i_iadd, i_isub, i_imul, i_iand, i_ior, i_ixor, i_idiv, i_irem, i_ishl, i_ishr, i_ladd, i_lsub, i_land, i_lor, i_i2l, i_lushr, i_lshl, i_lshr, i_lcmp, i_dup, i_pop, i_dx1, i_dup2, i_ifeq, i_ifne, i_iflt, i_ifge, i_ifgt, i_ifle, i_iceq, i_icne, i_iclt, i_icge, i_icgt, i_icle, i_ifn, i_gf, i_pf, i_ial, i_bal, i_lal, i_aal, i_ias, i_las, i_bas, i_aas, i_alen, i_newa, i_new, i_anew, i_cast, i_oi, i_call, i_callV, i_callV2, i_callI, i_iret, i_zret, i_lret, i_vret, i_aret, i_mmx, i_mmn, i_gsE, i_aceq, i_no, i_acq, i_sw, zsw, zlg, zls, znl, zfg, zcs, zsp, zrc, zisn, zft, zc1, zto, Value.category, List.set_cons_zero, List.set_cons_succ, List.length_cons, List.length_nil, Option.toList, List.append, List.nil_append, List.cons_append, true_and, and_true, Nat.add_zero, Nat.zero_le, Nat.zero_add, Nat.le_refl, Nat.reduceAdd, Nat.reduceLeDiff, co0, z0, zn_0, zn_1, zn_2, zn_3, zn_4, zn_5, zn_8, zn_12, zn_24, zn_121, zn_144, zn_256, zn_300, zn_600, zn_720, zn_1204, zn_1280, zn_2400, zn_4816, zn_14400, zn_90000, q_main, m_main, ar_4, ar_5, ar_12, ar_300, ar_600, ar_1200, ar_10, nI_add, ar_1, ar_2, ar_3, ar_2m]
  have no : ∀ f v, f < 4 → zf4 a b c d f = v → zb (y_pass y (4 * w + f) v) = 0 → Rt (some (.inl (.int 0))) (mp y) := by
    intro f v hf hv h
    rw [y_fit, zd_f (fun q => by have := q f hf; rw [hv, zb_0.mp h] at this; cases this)] at hR
    exact hR
  refine ⟨y, 4 * w, a, rfl, rfl, by omega, h4 0 (by decide), fun h => ⟨by decide, no 0 a (by decide) rfl h⟩, fun h0 => ?_⟩
  simp only [i_ic, i_lc, i_nul, i_il, i_ll, i_al, i_is, i_as, i_ls, i_inc, i_iadd, i_isub, i_imul, i_iand, i_ior, i_ixor, i_idiv, i_irem, i_ishl, i_ishr, i_ladd, i_lsub, i_land, i_lor, i_i2l, i_lushr, i_lshl, i_lshr, i_lcmp, i_dup, i_pop, i_dx1, i_dup2, i_ifeq, i_ifne, i_iflt, i_ifge, i_ifgt, i_ifle, i_iceq, i_icne, i_iclt, i_icge, i_icgt, i_icle, i_ifn, i_gf, i_pf, i_ial, i_bal, i_lal, i_aal, i_ias, i_las, i_bas, i_aas, i_alen, i_newa, i_new, i_anew, i_cast, i_oi, i_call, i_callV, i_callV2, i_callI, i_iret, i_zret, i_lret, i_vret, i_aret, i_mmx, i_mmn, i_gsE, i_aceq, i_no, i_acq, i_sw, zsw, zlg, zls, znl, zfg, zcs, zsp, zrc, zisn, zft, zc1, zto, Value.category, List.set_cons_zero, List.set_cons_succ, List.length_cons, List.length_nil, Option.toList, List.append, List.nil_append, List.cons_append, true_and, and_true, Nat.add_zero, Nat.zero_le, Nat.zero_add, Nat.le_refl, Nat.reduceAdd, Nat.reduceLeDiff, co0, z0, zn_0, zn_1, zn_2, zn_3, zn_4, zn_5, zn_8, zn_12, zn_24, zn_121, zn_144, zn_256, zn_300, zn_600, zn_720, zn_1204, zn_1280, zn_2400, zn_4816, zn_14400, zn_90000, q_main, m_main, ar_4, ar_5, ar_12, ar_300, ar_600, ar_1200, ar_10, nI_add, ar_1, ar_2, ar_3, ar_2m]
  refine ⟨y, 4 * w + 1, b, rfl, rfl, by omega, h4 1 (by decide), fun h => ⟨by decide, no 1 b (by decide) rfl h⟩, fun h1 => ?_⟩
  simp only [i_ic, i_lc, i_nul, i_il, i_ll, i_al, i_is, i_as, i_ls, i_inc, i_iadd, i_isub, i_imul, i_iand, i_ior, i_ixor, i_idiv, i_irem, i_ishl, i_ishr, i_ladd, i_lsub, i_land, i_lor, i_i2l, i_lushr, i_lshl, i_lshr, i_lcmp, i_dup, i_pop, i_dx1, i_dup2, i_ifeq, i_ifne, i_iflt, i_ifge, i_ifgt, i_ifle, i_iceq, i_icne, i_iclt, i_icge, i_icgt, i_icle, i_ifn, i_gf, i_pf, i_ial, i_bal, i_lal, i_aal, i_ias, i_las, i_bas, i_aas, i_alen, i_newa, i_new, i_anew, i_cast, i_oi, i_call, i_callV, i_callV2, i_callI, i_iret, i_zret, i_lret, i_vret, i_aret, i_mmx, i_mmn, i_gsE, i_aceq, i_no, i_acq, i_sw, zsw, zlg, zls, znl, zfg, zcs, zsp, zrc, zisn, zft, zc1, zto, Value.category, List.set_cons_zero, List.set_cons_succ, List.length_cons, List.length_nil, Option.toList, List.append, List.nil_append, List.cons_append, true_and, and_true, Nat.add_zero, Nat.zero_le, Nat.zero_add, Nat.le_refl, Nat.reduceAdd, Nat.reduceLeDiff, co0, z0, zn_0, zn_1, zn_2, zn_3, zn_4, zn_5, zn_8, zn_12, zn_24, zn_121, zn_144, zn_256, zn_300, zn_600, zn_720, zn_1204, zn_1280, zn_2400, zn_4816, zn_14400, zn_90000, q_main, m_main, ar_4, ar_5, ar_12, ar_300, ar_600, ar_1200, ar_10, nI_add, ar_1, ar_2, ar_3, ar_2m]
  refine ⟨y, 4 * w + 2, c, rfl, rfl, by omega, h4 2 (by decide), fun h => ⟨by decide, no 2 c (by decide) rfl h⟩, fun h2 => ?_⟩
  simp only [i_ic, i_lc, i_nul, i_il, i_ll, i_al, i_is, i_as, i_ls, i_inc, i_iadd, i_isub, i_imul, i_iand, i_ior, i_ixor, i_idiv, i_irem, i_ishl, i_ishr, i_ladd, i_lsub, i_land, i_lor, i_i2l, i_lushr, i_lshl, i_lshr, i_lcmp, i_dup, i_pop, i_dx1, i_dup2, i_ifeq, i_ifne, i_iflt, i_ifge, i_ifgt, i_ifle, i_iceq, i_icne, i_iclt, i_icge, i_icgt, i_icle, i_ifn, i_gf, i_pf, i_ial, i_bal, i_lal, i_aal, i_ias, i_las, i_bas, i_aas, i_alen, i_newa, i_new, i_anew, i_cast, i_oi, i_call, i_callV, i_callV2, i_callI, i_iret, i_zret, i_lret, i_vret, i_aret, i_mmx, i_mmn, i_gsE, i_aceq, i_no, i_acq, i_sw, zsw, zlg, zls, znl, zfg, zcs, zsp, zrc, zisn, zft, zc1, zto, Value.category, List.set_cons_zero, List.set_cons_succ, List.length_cons, List.length_nil, Option.toList, List.append, List.nil_append, List.cons_append, true_and, and_true, Nat.add_zero, Nat.zero_le, Nat.zero_add, Nat.le_refl, Nat.reduceAdd, Nat.reduceLeDiff, co0, z0, zn_0, zn_1, zn_2, zn_3, zn_4, zn_5, zn_8, zn_12, zn_24, zn_121, zn_144, zn_256, zn_300, zn_600, zn_720, zn_1204, zn_1280, zn_2400, zn_4816, zn_14400, zn_90000, q_main, m_main, ar_4, ar_5, ar_12, ar_300, ar_600, ar_1200, ar_10, nI_add, ar_1, ar_2, ar_3, ar_2m]
  refine ⟨y, 4 * w + 3, d, rfl, rfl, by omega, h4 3 (by decide), fun h => ⟨by decide, no 3 d (by decide) rfl h⟩, fun h3 => ⟨by decide, ?_⟩⟩
  rw [y_fit, zd_t (fun f hf => by
    match f, hf with
    | 0, _ => exact zb_n0 h0
    | 1, _ => exact zb_n0 h1
    | 2, _ => exact zb_n0 h2
    | 3, _ => exact zb_n0 h3)] at hR
  exact hR
/-- a notice's fields -/
def y_f (y : zMS) (k : Nat) : Nat → Int32 := fun f => y_fi y (4 * k + f)
def T_Mo_isFit2 (As : List zAV) (M : zMp) (Rt : Option zAV → zMp → Prop) : Prop := ∃ y w k, As = [.inr (30, 0, 0), .inl (.int (nI w)), .inl (.int (nI k))] ∧ M = mp y ∧ w < 300 ∧ k < 600 ∧ Jv y ∧ Rt (some (.inl (.int (zb (y_fit y w (y_f y k)))))) M
abbrev co_Mo_isFit2 := co0
theorem dX7_isFit__0 : decode cX7_isFit_ 0 = .ok (.aload_n 0, 1) := by decide +kernel
theorem dX7_isFit__1 : decode cX7_isFit_ 1 = .ok (.iload_n 1, 1) := by decide +kernel
theorem dX7_isFit__2 : decode cX7_isFit_ 2 = .ok (.aload_n 0, 1) := by decide +kernel
theorem dX7_isFit__3 : decode cX7_isFit_ 3 = .ok (.getfield 32, 3) := by decide +kernel
theorem dX7_isFit__6 : decode cX7_isFit_ 6 = .ok (.iconst 4, 1) := by decide +kernel
theorem dX7_isFit__7 : decode cX7_isFit_ 7 = .ok (.iload_n 2, 1) := by decide +kernel
theorem dX7_isFit__8 : decode cX7_isFit_ 8 = .ok (.imul, 1) := by decide +kernel
theorem dX7_isFit__9 : decode cX7_isFit_ 9 = .ok (.iaload, 1) := by decide +kernel
theorem dX7_isFit__10 : decode cX7_isFit_ 10 = .ok (.aload_n 0, 1) := by decide +kernel
theorem dX7_isFit__11 : decode cX7_isFit_ 11 = .ok (.getfield 32, 3) := by decide +kernel
theorem dX7_isFit__14 : decode cX7_isFit_ 14 = .ok (.iconst 4, 1) := by decide +kernel
theorem dX7_isFit__15 : decode cX7_isFit_ 15 = .ok (.iload_n 2, 1) := by decide +kernel
theorem dX7_isFit__16 : decode cX7_isFit_ 16 = .ok (.imul, 1) := by decide +kernel
theorem dX7_isFit__17 : decode cX7_isFit_ 17 = .ok (.iconst 1, 1) := by decide +kernel
theorem dX7_isFit__18 : decode cX7_isFit_ 18 = .ok (.iadd, 1) := by decide +kernel
theorem dX7_isFit__19 : decode cX7_isFit_ 19 = .ok (.iaload, 1) := by decide +kernel
theorem dX7_isFit__20 : decode cX7_isFit_ 20 = .ok (.aload_n 0, 1) := by decide +kernel
theorem dX7_isFit__21 : decode cX7_isFit_ 21 = .ok (.getfield 32, 3) := by decide +kernel
theorem dX7_isFit__24 : decode cX7_isFit_ 24 = .ok (.iconst 4, 1) := by decide +kernel
theorem dX7_isFit__25 : decode cX7_isFit_ 25 = .ok (.iload_n 2, 1) := by decide +kernel
theorem dX7_isFit__26 : decode cX7_isFit_ 26 = .ok (.imul, 1) := by decide +kernel
theorem dX7_isFit__27 : decode cX7_isFit_ 27 = .ok (.iconst 2, 1) := by decide +kernel
theorem dX7_isFit__28 : decode cX7_isFit_ 28 = .ok (.iadd, 1) := by decide +kernel
theorem dX7_isFit__29 : decode cX7_isFit_ 29 = .ok (.iaload, 1) := by decide +kernel
theorem dX7_isFit__30 : decode cX7_isFit_ 30 = .ok (.aload_n 0, 1) := by decide +kernel
theorem dX7_isFit__31 : decode cX7_isFit_ 31 = .ok (.getfield 32, 3) := by decide +kernel
theorem dX7_isFit__34 : decode cX7_isFit_ 34 = .ok (.iconst 4, 1) := by decide +kernel
theorem dX7_isFit__35 : decode cX7_isFit_ 35 = .ok (.iload_n 2, 1) := by decide +kernel
theorem dX7_isFit__36 : decode cX7_isFit_ 36 = .ok (.imul, 1) := by decide +kernel
theorem dX7_isFit__37 : decode cX7_isFit_ 37 = .ok (.iconst 3, 1) := by decide +kernel
theorem dX7_isFit__38 : decode cX7_isFit_ 38 = .ok (.iadd, 1) := by decide +kernel
theorem dX7_isFit__39 : decode cX7_isFit_ 39 = .ok (.iaload, 1) := by decide +kernel
theorem dX7_isFit__40 : decode cX7_isFit_ 40 = .ok (.invokevirtual 102, 3) := by decide +kernel
theorem dX7_isFit__43 : decode cX7_isFit_ 43 = .ok (.ireturn, 1) := by decide +kernel
def B_Mo_isFit2_0 (mc ms : Nat) (Rt : Option zAV → zMp → Prop) (g : Nat → zKT) : zKT :=
  (i_al 0 (i_il 1 (i_al 0 (i_gf 8 11 (i_ic 4 (i_il 2 (i_imul (i_ial (i_al 0 (i_gf 8 11 (i_ic 4 (i_il 2 (i_imul (i_ic 1 (i_iadd (i_ial (i_al 0 (i_gf 8 11 (i_ic 4 (i_il 2 (i_imul (i_ic 2 (i_iadd (i_ial (i_al 0 (i_gf 8 11 (i_ic 4 (i_il 2 (i_imul (i_ic 3 (i_iadd (i_ial (i_callV mc ms 8 6 T_Mo_isFit co_Mo_isFit (i_zret mc ms Rt))))))))))))))))))))))))))))))))))
set_option maxRecDepth 20000 in
theorem s_Mo_isFit2_0 {X : zMa} {mc ms : Nat} {Rt : Option zAV → zMp → Prop} (hC : zCx X RX7 cX7_isFit_ 2 50 mc ms (some .boolean) false Rt) : zLe (B_Mo_isFit2_0 mc ms Rt (zG X)) (zG X 0) :=
  (sd_al_n hC rfl dX7_isFit__0 ((sd_il_n hC rfl dX7_isFit__1 ((sd_al_n hC rfl dX7_isFit__2 ((sd_gf hC (ci := 8) (fk := 11) rfl wi_Mo (by decide) fl_Mo_32 (Or.inl rfl) dX7_isFit__3 ((sd_iconst hC (by decide) dX7_isFit__6 ((sd_il_n hC rfl dX7_isFit__7 ((sd_imul hC dX7_isFit__8 ((sd_ial hC dX7_isFit__9 ((sd_al_n hC rfl dX7_isFit__10 ((sd_gf hC (ci := 8) (fk := 11) rfl wi_Mo (by decide) fl_Mo_32 (Or.inl rfl) dX7_isFit__11 ((sd_iconst hC (by decide) dX7_isFit__14 ((sd_il_n hC rfl dX7_isFit__15 ((sd_imul hC dX7_isFit__16 ((sd_iconst hC (by decide) dX7_isFit__17 ((sd_iadd hC dX7_isFit__18 ((sd_ial hC dX7_isFit__19 ((sd_al_n hC rfl dX7_isFit__20 ((sd_gf hC (ci := 8) (fk := 11) rfl wi_Mo (by decide) fl_Mo_32 (Or.inl rfl) dX7_isFit__21 ((sd_iconst hC (by decide) dX7_isFit__24 ((sd_il_n hC rfl dX7_isFit__25 ((sd_imul hC dX7_isFit__26 ((sd_iconst hC (by decide) dX7_isFit__27 ((sd_iadd hC dX7_isFit__28 ((sd_ial hC dX7_isFit__29 ((sd_al_n hC rfl dX7_isFit__30 ((sd_gf hC (ci := 8) (fk := 11) rfl wi_Mo (by decide) fl_Mo_32 (Or.inl rfl) dX7_isFit__31 ((sd_iconst hC (by decide) dX7_isFit__34 ((sd_il_n hC rfl dX7_isFit__35 ((sd_imul hC dX7_isFit__36 ((sd_iconst hC (by decide) dX7_isFit__37 ((sd_iadd hC dX7_isFit__38 ((sd_ial hC dX7_isFit__39 ((sd_cV hC c_Mo_isFit yv_Mo_isFit (ci := 8) rfl rfl ml_Mo_102 (by decide) (by decide) dX7_isFit__40 ((sd_zret hC dX7_isFit__43)))))))))))))))))))))))))))))))))))))))))))))))))))))))))))))))))))
theorem c_Mo_isFit2 (l : Launch) : zCT l yX7_isFit_ cX7_isFit_ 3 (some .boolean) 2 50 T_Mo_isFit2 co_Mo_isFit2 := by
  intro As M Rt hT
  obtain ⟨y, w, k, rfl, rfl, hw, hk, hJ, hR⟩ := hT
  refine zMet_of false (by decide +kernel) (fun h => by first | rfl | cases h) (Nat.le_of_ble_eq_true rfl) (fun X hN hC => ?_)
  show zG X 0 [some (.inr (30, 0, 0)), some (.inl (.int (nI w))), some (.inl (.int (nI k)))] [] (mp y) 0 0
  refine s_Mo_isFit2_0 hC _ _ _ _ _ ?_
  simp only [B_Mo_isFit2_0, co_Mo_isFit, co_Mo_isFit2, i_ic, i_lc, i_nul, i_il, i_ll, i_al, i_is, i_as, i_ls, i_inc, i_iadd, i_isub, i_imul, i_iand, i_ior, i_ixor, i_idiv, i_irem, i_ishl, i_ishr, i_ladd, i_lsub, i_land, i_lor, i_i2l, i_lushr, i_lshl, i_lshr, i_lcmp, i_dup, i_pop, i_dx1, i_dup2, i_ifeq, i_ifne, i_iflt, i_ifge, i_ifgt, i_ifle, i_iceq, i_icne, i_iclt, i_icge, i_icgt, i_icle, i_ifn, i_gf, i_pf, i_ial, i_bal, i_lal, i_aal, i_ias, i_las, i_bas, i_aas, i_alen, i_newa, i_new, i_anew, i_cast, i_oi, i_call, i_callV, i_callV2, i_callI, i_iret, i_zret, i_lret, i_vret, i_aret, i_mmx, i_mmn, i_gsE, i_aceq, i_no, i_acq, i_sw, zsw, zlg, zls, znl, zfg, zcs, zsp, zrc, zisn, zft, zc1, zto, Value.category, List.set_cons_zero, List.set_cons_succ, List.length_cons, List.length_nil, Option.toList, List.append, List.nil_append, List.cons_append, true_and, and_true, Nat.add_zero, Nat.zero_le, Nat.zero_add, Nat.le_refl, Nat.reduceAdd, Nat.reduceLeDiff, co0, z0, zn_0, zn_1, zn_2, zn_3, zn_4, zn_5, zn_8, zn_12, zn_24, zn_121, zn_144, zn_256, zn_300, zn_600, zn_720, zn_1204, zn_1280, zn_2400, zn_4816, zn_14400, zn_90000, q_main, m_main, q_fi, ar_4, ar_5, ar_12, ar_300, ar_600, ar_1200, ar_10, nI_add, ar_1, ar_2, ar_3, ar_2m]
  rw [nI_clamp (by omega), nI_clamp (by omega), nI_clamp (by omega), nI_clamp (by omega)]
  refine ⟨vp_in_nI (by omega) (by decide), vp_in_nI (by omega) (by decide), vp_in_nI (by omega) (by decide), vp_in_nI (by omega) (by decide), y, w, _, _, _, _, rfl, rfl, hw, hJ, ?_⟩
  have e : y_fit y w (zf4 (y_fi y (4 * k)) (y_fi y (4 * k + 1)) (y_fi y (4 * k + 2)) (y_fi y (4 * k + 3))) = y_fit y w (y_f y k) := by
    refine zd_c ⟨fun h f hf => ?_, fun h f hf => ?_⟩
    · have := h f hf
      match f, hf with
      | 0, _ => exact this
      | 1, _ => exact this
      | 2, _ => exact this
      | 3, _ => exact this
    · have := h f hf
      match f, hf with
      | 0, _ => exact this
      | 1, _ => exact this
      | 2, _ => exact this
      | 3, _ => exact this
  rw [e]
  exact ⟨zb_01 _, hR⟩
