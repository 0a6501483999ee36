/-! WishRoutes: small helpers -/
theorem p_list {x : zSt} {i : Nat} (h : i < 4) : pic x (1, i, 0) = some (zal (x_lc x i) (x_dn x i) (x_sz x i)) := if_pos ⟨h, rfl⟩
theorem p_dat {x : zSt} {i : Nat} (h : i < 4) (hc : 0 < x_cp x i) : pic x (x_dn x i) = some (zoa (x_cp x i) (x_el x i)) := by
  unfold x_dn
  rw [if_neg (by omega)]
  exact if_pos ⟨h, hc, rfl⟩
theorem p_nb (x : zSt) : pic x (3, 0, 0) = some (zin 12 (x_nb x)) := rfl
theorem p_ln (x : zSt) : pic x (4, 0, 0) = some (zra "WishRoutes$Lane" 144 (fun p => (x_ln x p).map (fun l => (16, l, 0)))) := rfl
/-- what always holds of the class's memory -/
def Iv (x : zSt) : Prop :=
  x_dk x ≤ 12 ∧ (x_nr x ≤ x_or x ∧ x_nw x ≤ x_ow x ∧ x_nn x ≤ x_on x) ∧ (x_nr x ≤ 24 ∧ x_nw x ≤ 300 ∧ x_nn x ≤ 600 ∧ x_ns x ≤ 600) ∧
  (∀ i, i < 4 → x_sz x i ≤ x_cp x i ∧ x_cp x i ≤ 1000) ∧ (∀ i j, x_gb x i j ≠ none → j < x_cp x i) ∧
  (∀ i, i < x_or x → x_rz x i ≤ 600 ∧ ∃ d, d < x_dk x ∧ x_rd x i = nI d) ∧ (∀ w, w < x_ow x → x_wr x w < x_or x ∧ x_wr x w < 24 ∧ ft_ok x w) ∧ ft_ok x (x_rg x) ∧
  (∀ l, l < x_nl x → x_lz x l ≤ 121 ∧ x_lf x l < 121) ∧ (∀ p l, x_ln x p = some l → l < x_nl x) ∧ (∀ k, k < x_ns x → x_sp x k < x_nl x)
theorem Iv.dk {x : zSt} (h : Iv x) : x_dk x ≤ 12 := h.1
theorem Iv.cnt {x : zSt} (h : Iv x) : x_nr x ≤ x_or x ∧ x_nw x ≤ x_ow x ∧ x_nn x ≤ x_on x := h.2.1
theorem Iv.lim {x : zSt} (h : Iv x) : x_nr x ≤ 24 ∧ x_nw x ≤ 300 ∧ x_nn x ≤ 600 ∧ x_ns x ≤ 600 := h.2.2.1
theorem Iv.cap {x : zSt} (h : Iv x) : ∀ i, i < 4 → x_sz x i ≤ x_cp x i ∧ x_cp x i ≤ 1000 := h.2.2.2.1
theorem Iv.gb {x : zSt} (h : Iv x) : ∀ i j, x_gb x i j ≠ none → j < x_cp x i := h.2.2.2.2.1
theorem Iv.rdr {x : zSt} (h : Iv x) : ∀ i, i < x_or x → x_rz x i ≤ 600 ∧ ∃ d, d < x_dk x ∧ x_rd x i = nI d := h.2.2.2.2.2.1
theorem Iv.wsh {x : zSt} (h : Iv x) : ∀ w, w < x_ow x → x_wr x w < x_or x ∧ x_wr x w < 24 ∧ ft_ok x w := h.2.2.2.2.2.2.1
theorem Iv.rg {x : zSt} (h : Iv x) : ft_ok x (x_rg x) := h.2.2.2.2.2.2.2.1
theorem Iv.lan {x : zSt} (h : Iv x) : ∀ l, l < x_nl x → x_lz x l ≤ 121 ∧ x_lf x l < 121 := h.2.2.2.2.2.2.2.2.1
theorem Iv.ln {x : zSt} (h : Iv x) : ∀ p l, x_ln x p = some l → l < x_nl x := h.2.2.2.2.2.2.2.2.2.1
theorem Iv.sp {x : zSt} (h : Iv x) : ∀ k, k < x_ns x → x_sp x k < x_nl x := h.2.2.2.2.2.2.2.2.2.2
/-- a number of a desk, reader, .. -/
noncomputable def isn (n : Nat) (d : Int32) : Bool := zd (¬ d < 0 ∧ d < nI n)
theorem isn_t {n : Nat} {d : Int32} (hn : n < 2 ^ 31) (h : isn n d = true) : ∃ k, k < n ∧ d = nI k := by
  obtain ⟨h1, h2⟩ := zd_i.mp h
  obtain ⟨k, hk, rfl⟩ := nI_of h1
  exact ⟨k, (nI_ltI hk hn).mp h2, rfl⟩
theorem isn_n {n k : Nat} (hn : n < 2 ^ 31) (h : k < n) : isn n (nI k) = true := zd_t ⟨nI_pos (by omega), nI_lt h hn⟩
def T_WR_isDesk (As : List zAV) (M : zMp) (Rt : Option zAV → zMp → Prop) : Prop := ∃ x d, As = [.inr (0, 0, 0), .inl (.int d)] ∧ M = pic x ∧ Rt (some (.inl (.int (zb (isn (x_dk x) d))))) M
abbrev co_WR_isDesk := co0
theorem dX6_isDesk_0 : decode cX6_isDesk 0 = .ok (.iload_n 1, 1) := by decide +kernel
theorem dX6_isDesk_1 : decode cX6_isDesk 1 = .ok (.ifCond .lt 15, 3) := by decide +kernel
theorem dX6_isDesk_4 : decode cX6_isDesk 4 = .ok (.iload_n 1, 1) := by decide +kernel
theorem dX6_isDesk_5 : decode cX6_isDesk 5 = .ok (.aload_n 0, 1) := by decide +kernel
theorem dX6_isDesk_6 : decode cX6_isDesk 6 = .ok (.getfield 53, 3) := by decide +kernel
theorem dX6_isDesk_9 : decode cX6_isDesk 9 = .ok (.if_icmp .ge 7, 3) := by decide +kernel
theorem dX6_isDesk_12 : decode cX6_isDesk 12 = .ok (.iconst 1, 1) := by decide +kernel
theorem dX6_isDesk_13 : decode cX6_isDesk 13 = .ok (.goto 4, 3) := by decide +kernel
theorem dX6_isDesk_16 : decode cX6_isDesk 16 = .ok (.iconst 0, 1) := by decide +kernel
theorem dX6_isDesk_17 : decode cX6_isDesk 17 = .ok (.ireturn, 1) := by decide +kernel
def B_WR_isDesk_17 (mc ms : Nat) (Rt : Option zAV → zMp → Prop) (g : Nat → zKT) : zKT :=
  (i_zret mc ms Rt)
set_option maxRecDepth 20000 in
theorem s_WR_isDesk_17 {X : zMa} {mc ms : Nat} {Rt : Option zAV → zMp → Prop} (hC : zCx X RX6 cX6_isDesk 0 0 mc ms (some .boolean) false Rt) : zLe (B_WR_isDesk_17 mc ms Rt (zG X)) (zG X 17) :=
  (sd_zret hC dX6_isDesk_17)
def B_WR_isDesk_16 (mc ms : Nat) (Rt : Option zAV → zMp → Prop) (g : Nat → zKT) : zKT :=
  (i_ic 0 (B_WR_isDesk_17 mc ms Rt g))
set_option maxRecDepth 20000 in
theorem s_WR_isDesk_16 {X : zMa} {mc ms : Nat} {Rt : Option zAV → zMp → Prop} (hC : zCx X RX6 cX6_isDesk 0 0 mc ms (some .boolean) false Rt) : zLe (B_WR_isDesk_16 mc ms Rt (zG X)) (zG X 16) :=
  (sd_iconst hC (by decide) dX6_isDesk_16 (s_WR_isDesk_17 hC))
def B_WR_isDesk_0 (mc ms : Nat) (Rt : Option zAV → zMp → Prop) (g : Nat → zKT) : zKT :=
  (i_il 1 (i_iflt (B_WR_isDesk_16 mc ms Rt g) (i_il 1 (i_al 0 (i_gf 7 9 (i_icge (B_WR_isDesk_16 mc ms Rt g) (i_ic 1 (B_WR_isDesk_17 mc ms Rt g))))))))
set_option maxRecDepth 20000 in
theorem s_WR_isDesk_0 {X : zMa} {mc ms : Nat} {Rt : Option zAV → zMp → Prop} (hC : zCx X RX6 cX6_isDesk 0 0 mc ms (some .boolean) false Rt) : zLe (B_WR_isDesk_0 mc ms Rt (zG X)) (zG X 0) :=
  (sd_il_n hC rfl dX6_isDesk_0 ((sd_iflt hC (tgt := 16) (by decide) dX6_isDesk_1 (s_WR_isDesk_16 hC) ((sd_il_n hC rfl dX6_isDesk_4 ((sd_al_n hC rfl dX6_isDesk_5 ((sd_gf hC (ci := 7) (fk := 9) rfl wi_WR (by decide) fl_WR_53 (Or.inl rfl) dX6_isDesk_6 ((sd_icge hC (tgt := 16) (by decide) dX6_isDesk_9 (s_WR_isDesk_16 hC) ((sd_iconst hC (by decide) dX6_isDesk_12 ((sd_goto hC (tgt := 17) (by decide) dX6_isDesk_13 (s_WR_isDesk_17 hC))))))))))))))))
theorem c_WR_isDesk (l : Launch) : zCT l yX6_isDesk cX6_isDesk 2 (some .boolean) 0 0 T_WR_isDesk co_WR_isDesk := by
  intro As M Rt hT
  obtain ⟨x, d, rfl, rfl, hR⟩ := hT
  refine zMet_of false (by decide +kernel) (fun h => by first | rfl | cases h) (Nat.le_of_ble_eq_true rfl) (fun X hN hC => ?_)
  show zG X 0 [some (.inr (0, 0, 0)), some (.inl (.int d))] [] (pic x) 0 0
  refine s_WR_isDesk_0 hC _ _ _ _ _ ?_
  simp only [B_WR_isDesk_0, B_WR_isDesk_16, B_WR_isDesk_17, co_WR_isDesk, i_ic, i_lc, i_nul, i_il, i_ll, i_al, i_is, i_as, i_ls, i_inc, i_iadd, i_isub, i_imul, i_iand, i_ior, i_ixor, i_idiv, i_irem, i_ishl, i_ishr, i_ladd, i_lsub, i_land, i_lor, i_i2l, i_lushr, i_lshl, i_lshr, i_lcmp, i_dup, i_pop, i_dx1, i_dup2, i_ifeq, i_ifne, i_iflt, i_ifge, i_ifgt, i_ifle, i_iceq, i_icne, i_iclt, i_icge, i_icgt, i_icle, i_ifn, i_gf, i_pf, i_ial, i_bal, i_lal, i_aal, i_ias, i_las, i_bas, i_aas, i_alen, i_newa, i_new, i_anew, i_cast, i_oi, i_call, i_callV, i_callV2, i_callI, i_iret, i_zret, i_lret, i_vret, i_aret, i_mmx, i_mmn, i_gsE, i_aceq, i_no, i_acq, i_sw, zsw, zlg, zls, znl, zfg, zcs, zsp, zrc, zisn, zft, zc1, zto, Value.category, List.set_cons_zero, List.set_cons_succ, List.length_cons, List.length_nil, Option.toList, List.append, List.nil_append, List.cons_append, true_and, and_true, Nat.add_zero, Nat.zero_le, Nat.zero_add, Nat.le_refl, Nat.reduceAdd, Nat.reduceLeDiff, co0, z0, zn_0, zn_1, zn_2, zn_3, zn_4, zn_5, zn_8, zn_12, zn_24, zn_121, zn_144, zn_256, zn_300, zn_600, zn_720, zn_1204, zn_1280, zn_2400, zn_4816, zn_14400, zn_90000, p_main, x_main]
  refine ⟨fun h => ⟨by decide, ?_⟩, fun h => ⟨fun h' => ⟨by decide, ?_⟩, fun h' => ⟨by decide, ?_⟩⟩⟩
  · rw [isn, zd_f (fun q => q.1 h)] at hR; exact hR
  · rw [isn, zd_f (fun q => absurd q.2 (Int32.not_lt.mpr h'))] at hR; exact hR
  · rw [isn, zd_t ⟨h, Int32.not_le.mp h'⟩] at hR; exact hR
def T_WR_isField (As : List zAV) (M : zMp) (Rt : Option zAV → zMp → Prop) : Prop := ∃ d, As = [.inl (.int d)] ∧ Rt (some (.inl (.int (zb (isn 4 d))))) M
abbrev co_WR_isField := co0
theorem dX6_isField_0 : decode cX6_isField 0 = .ok (.iload_n 0, 1) := by decide +kernel
theorem dX6_isField_1 : decode cX6_isField 1 = .ok (.ifCond .lt 12, 3) := by decide +kernel
theorem dX6_isField_4 : decode cX6_isField 4 = .ok (.iload_n 0, 1) := by decide +kernel
theorem dX6_isField_5 : decode cX6_isField 5 = .ok (.iconst 4, 1) := by decide +kernel
theorem dX6_isField_6 : decode cX6_isField 6 = .ok (.if_icmp .ge 7, 3) := by decide +kernel
theorem dX6_isField_9 : decode cX6_isField 9 = .ok (.iconst 1, 1) := by decide +kernel
theorem dX6_isField_10 : decode cX6_isField 10 = .ok (.goto 4, 3) := by decide +kernel
theorem dX6_isField_13 : decode cX6_isField 13 = .ok (.iconst 0, 1) := by decide +kernel
theorem dX6_isField_14 : decode cX6_isField 14 = .ok (.ireturn, 1) := by decide +kernel
def B_WR_isField_14 (mc ms : Nat) (Rt : Option zAV → zMp → Prop) (g : Nat → zKT) : zKT :=
  (i_zret mc ms Rt)
set_option maxRecDepth 20000 in
theorem s_WR_isField_14 {X : zMa} {mc ms : Nat} {Rt : Option zAV → zMp → Prop} (hC : zCx X RX6 cX6_isField 0 0 mc ms (some .boolean) false Rt) : zLe (B_WR_isField_14 mc ms Rt (zG X)) (zG X 14) :=
  (sd_zret hC dX6_isField_14)
def B_WR_isField_13 (mc ms : Nat) (Rt : Option zAV → zMp → Prop) (g : Nat → zKT) : zKT :=
  (i_ic 0 (B_WR_isField_14 mc ms Rt g))
set_option maxRecDepth 20000 in
theorem s_WR_isField_13 {X : zMa} {mc ms : Nat} {Rt : Option zAV → zMp → Prop} (hC : zCx X RX6 cX6_isField 0 0 mc ms (some .boolean) false Rt) : zLe (B_WR_isField_13 mc ms Rt (zG X)) (zG X 13) :=
  (sd_iconst hC (by decide) dX6_isField_13 (s_WR_isField_14 hC))
def B_WR_isField_0 (mc ms : Nat) (Rt : Option zAV → zMp → Prop) (g : Nat → zKT) : zKT :=
  (i_il 0 (i_iflt (B_WR_isField_13 mc ms Rt g) (i_il 0 (i_ic 4 (i_icge (B_WR_isField_13 mc ms Rt g) (i_ic 1 (B_WR_isField_14 mc ms Rt g)))))))
set_option maxRecDepth 20000 in
theorem s_WR_isField_0 {X : zMa} {mc ms : Nat} {Rt : Option zAV → zMp → Prop} (hC : zCx X RX6 cX6_isField 0 0 mc ms (some .boolean) false Rt) : zLe (B_WR_isField_0 mc ms Rt (zG X)) (zG X 0) :=
  (sd_il_n hC rfl dX6_isField_0 ((sd_iflt hC (tgt := 13) (by decide) dX6_isField_1 (s_WR_isField_13 hC) ((sd_il_n hC rfl dX6_isField_4 ((sd_iconst hC (by decide) dX6_isField_5 ((sd_icge hC (tgt := 13) (by decide) dX6_isField_6 (s_WR_isField_13 hC) ((sd_iconst hC (by decide) dX6_isField_9 ((sd_goto hC (tgt := 14) (by decide) dX6_isField_10 (s_WR_isField_14 hC))))))))))))))
theorem c_WR_isField (l : Launch) : zCT l yX6_isField cX6_isField 1 (some .boolean) 0 0 T_WR_isField co_WR_isField := by
  intro As M Rt hT
  obtain ⟨d, rfl, hR⟩ := hT
  refine zMet_of false (by decide +kernel) (fun h => by first | rfl | cases h) (Nat.le_of_ble_eq_true rfl) (fun X hN hC => ?_)
  show zG X 0 [some (.inl (.int d))] [] M 0 0
  refine s_WR_isField_0 hC _ _ _ _ _ ?_
  simp only [B_WR_isField_0, B_WR_isField_13, B_WR_isField_14, co_WR_isField, i_ic, i_lc, i_nul, i_il, i_ll, i_al, i_is, i_as, i_ls, i_inc, i_iadd, i_isub, i_imul, i_iand, i_ior, i_ixor, i_idiv, i_irem, i_ishl, i_ishr, i_ladd, i_lsub, i_land, i_lor, i_i2l, i_lushr, i_lshl, i_lshr, i_lcmp, i_dup, i_pop, i_dx1, i_dup2, i_ifeq, i_ifne, i_iflt, i_ifge, i_ifgt, i_ifle, i_iceq, i_icne, i_iclt, i_icge, i_icgt, i_icle, i_ifn, i_gf, i_pf, i_ial, i_bal, i_lal, i_aal, i_ias, i_las, i_bas, i_aas, i_alen, i_newa, i_new, i_anew, i_cast, i_oi, i_call, i_callV, i_callV2, i_callI, i_iret, i_zret, i_lret, i_vret, i_aret, i_mmx, i_mmn, i_gsE, i_aceq, i_no, i_acq, i_sw, zsw, zlg, zls, znl, zfg, zcs, zsp, zrc, zisn, zft, zc1, zto, Value.category, List.set_cons_zero, List.set_cons_succ, List.length_cons, List.length_nil, Option.toList, List.append, List.nil_append, List.cons_append, true_and, and_true, Nat.add_zero, Nat.zero_le, Nat.zero_add, Nat.le_refl, Nat.reduceAdd, Nat.reduceLeDiff, co0, z0, zn_0, zn_1, zn_2, zn_3, zn_4, zn_5, zn_8, zn_12, zn_24, zn_121, zn_144, zn_256, zn_300, zn_600, zn_720, zn_1204, zn_1280, zn_2400, zn_4816, zn_14400, zn_90000]
  refine ⟨fun h => ⟨by decide, ?_⟩, fun h => ⟨fun h' => ⟨by decide, ?_⟩, fun h' => ⟨by decide, ?_⟩⟩⟩
  · rw [isn, zd_f (fun q => q.1 h)] at hR; exact hR
  · rw [isn, zd_f (fun q => absurd q.2 (Int32.not_lt.mpr h'))] at hR; exact hR
  · rw [isn, zd_t ⟨h, Int32.not_le.mp h'⟩] at hR; exact hR
/-- bit d of a mask -/
noncomputable def inm (m d : Int32) : Bool := zd (¬ ((m >>> (d &&& 31)) &&& 1) = 0)
def T_WR_inMask (As : List zAV) (M : zMp) (Rt : Option zAV → zMp → Prop) : Prop := ∃ m d, As = [.inl (.int m), .inl (.int d)] ∧ Rt (some (.inl (.int (zb (inm m d))))) M
abbrev co_WR_inMask := co0
theorem dX6_inMask_0 : decode cX6_inMask 0 = .ok (.iload_n 0, 1) := by decide +kernel
theorem dX6_inMask_1 : decode cX6_inMask 1 = .ok (.iload_n 1, 1) := by decide +kernel
theorem dX6_inMask_2 : decode cX6_inMask 2 = .ok (.ishr, 1) := by decide +kernel
theorem dX6_inMask_3 : decode cX6_inMask 3 = .ok (.iconst 1, 1) := by decide +kernel
theorem dX6_inMask_4 : decode cX6_inMask 4 = .ok (.iand, 1) := by decide +kernel
theorem dX6_inMask_5 : decode cX6_inMask 5 = .ok (.ifCond .eq 7, 3) := by decide +kernel
theorem dX6_inMask_8 : decode cX6_inMask 8 = .ok (.iconst 1, 1) := by decide +kernel
theorem dX6_inMask_9 : decode cX6_inMask 9 = .ok (.goto 4, 3) := by decide +kernel
theorem dX6_inMask_12 : decode cX6_inMask 12 = .ok (.iconst 0, 1) := by decide +kernel
theorem dX6_inMask_13 : decode cX6_inMask 13 = .ok (.ireturn, 1) := by decide +kernel
def B_WR_inMask_13 (mc ms : Nat) (Rt : Option zAV → zMp → Prop) (g : Nat → zKT) : zKT :=
  (i_zret mc ms Rt)
set_option maxRecDepth 20000 in
theorem s_WR_inMask_13 {X : zMa} {mc ms : Nat} {Rt : Option zAV → zMp → Prop} (hC : zCx X RX6 cX6_inMask 0 0 mc ms (some .boolean) false Rt) : zLe (B_WR_inMask_13 mc ms Rt (zG X)) (zG X 13) :=
  (sd_zret hC dX6_inMask_13)
def B_WR_inMask_12 (mc ms : Nat) (Rt : Option zAV → zMp → Prop) (g : Nat → zKT) : zKT :=
  (i_ic 0 (B_WR_inMask_13 mc ms Rt g))
set_option maxRecDepth 20000 in
theorem s_WR_inMask_12 {X : zMa} {mc ms : Nat} {Rt : Option zAV → zMp → Prop} (hC : zCx X RX6 cX6_inMask 0 0 mc ms (some .boolean) false Rt) : zLe (B_WR_inMask_12 mc ms Rt (zG X)) (zG X 12) :=
  (sd_iconst hC (by decide) dX6_inMask_12 (s_WR_inMask_13 hC))
def B_WR_inMask_0 (mc ms : Nat) (Rt : Option zAV → zMp → Prop) (g : Nat → zKT) : zKT :=
  (i_il 0 (i_il 1 (i_ishr (i_ic 1 (i_iand (i_ifeq (B_WR_inMask_12 mc ms Rt g) (i_ic 1 (B_WR_inMask_13 mc ms Rt g))))))))
set_option maxRecDepth 20000 in
theorem s_WR_inMask_0 {X : zMa} {mc ms : Nat} {Rt : Option zAV → zMp → Prop} (hC : zCx X RX6 cX6_inMask 0 0 mc ms (some .boolean) false Rt) : zLe (B_WR_inMask_0 mc ms Rt (zG X)) (zG X 0) :=
  (sd_il_n hC rfl dX6_inMask_0 ((sd_il_n hC rfl dX6_inMask_1 ((sd_ishr hC dX6_inMask_2 ((sd_iconst hC (by decide) dX6_inMask_3 ((sd_iand hC dX6_inMask_4 ((sd_ifeq hC (tgt := 12) (by decide) dX6_inMask_5 (s_WR_inMask_12 hC) ((sd_iconst hC (by decide) dX6_inMask_8 ((sd_goto hC (tgt := 13) (by decide) dX6_inMask_9 (s_WR_inMask_13 hC))))))))))))))))
theorem c_WR_inMask (l : Launch) : zCT l yX6_inMask cX6_inMask 2 (some .boolean) 0 0 T_WR_inMask co_WR_inMask := by
  intro As M Rt hT
  obtain ⟨m, d, rfl, hR⟩ := hT
  refine zMet_of false (by decide +kernel) (fun h => by first | rfl | cases h) (Nat.le_of_ble_eq_true rfl) (fun X hN hC => ?_)
  show zG X 0 [some (.inl (.int m)), some (.inl (.int d))] [] M 0 0
  refine s_WR_inMask_0 hC _ _ _ _ _ ?_
  simp only [B_WR_inMask_0, B_WR_inMask_12, B_WR_inMask_13, co_WR_inMask, i_ic, i_lc, i_nul, i_il, i_ll, i_al, i_is, i_as, i_ls, i_inc, i_iadd, i_isub, i_imul, i_iand, i_ior, i_ixor, i_idiv, i_irem, i_ishl, i_ishr, i_ladd, i_lsub, i_land, i_lor, i_i2l, i_lushr, i_lshl, i_lshr, i_lcmp, i_dup, i_pop, i_dx1, i_dup2, i_ifeq, i_ifne, i_iflt, i_ifge, i_ifgt, i_ifle, i_iceq, i_icne, i_iclt, i_icge, i_icgt, i_icle, i_ifn, i_gf, i_pf, i_ial, i_bal, i_lal, i_aal, i_ias, i_las, i_bas, i_aas, i_alen, i_newa, i_new, i_anew, i_cast, i_oi, i_call, i_callV, i_callV2, i_callI, i_iret, i_zret, i_lret, i_vret, i_aret, i_mmx, i_mmn, i_gsE, i_aceq, i_no, i_acq, i_sw, zsw, zlg, zls, znl, zfg, zcs, zsp, zrc, zisn, zft, zc1, zto, Value.category, List.set_cons_zero, List.set_cons_succ, List.length_cons, List.length_nil, Option.toList, List.append, List.nil_append, List.cons_append, true_and, and_true, Nat.add_zero, Nat.zero_le, Nat.zero_add, Nat.le_refl, Nat.reduceAdd, Nat.reduceLeDiff, co0, z0, zn_0, zn_1, zn_2, zn_3, zn_4, zn_5, zn_8, zn_12, zn_24, zn_121, zn_144, zn_256, zn_300, zn_600, zn_720, zn_1204, zn_1280, zn_2400, zn_4816, zn_14400, zn_90000]
  refine ⟨fun h => ⟨by decide, ?_⟩, fun h => ⟨by decide, ?_⟩⟩
  · rw [inm, zd_f (fun q => q h)] at hR; exact hR
  · rw [inm, zd_t h] at hR; exact hR
/-! finding readers, wishes, notices -/
noncomputable def fnd (K n : Nat) (d : Int32) : Option zNm := if isn n d = true then some (K, d.toNatClampNeg, 0) else none
theorem fnd_n {K n k : Nat} (hn : n < 2 ^ 31) (h : k < n) : fnd K n (nI k) = some (K, k, 0) := by
  unfold fnd
  rw [if_pos (isn_n hn h), nI_clamp (by omega)]
def T_WR_findReader (As : List zAV) (M : zMp) (Rt : Option zAV → zMp → Prop) : Prop := ∃ x d, As = [.inr (0, 0, 0), .inl (.int d)] ∧ M = pic x ∧ Iv x ∧ Rt (some (zov (fnd 10 (x_nr x) d))) M
abbrev co_WR_findReader := co0
theorem dX6_findReader_0 : decode cX6_findReader 0 = .ok (.iload_n 1, 1) := by decide +kernel
theorem dX6_findReader_1 : decode cX6_findReader 1 = .ok (.ifCond .lt 28, 3) := by decide +kernel
theorem dX6_findReader_4 : decode cX6_findReader 4 = .ok (.iload_n 1, 1) := by decide +kernel
theorem dX6_findReader_5 : decode cX6_findReader 5 = .ok (.aload_n 0, 1) := by decide +kernel
theorem dX6_findReader_6 : decode cX6_findReader 6 = .ok (.getfield 12, 3) := by decide +kernel
theorem dX6_findReader_9 : decode cX6_findReader 9 = .ok (.invokevirtual 96, 3) := by decide +kernel
theorem dX6_findReader_12 : decode cX6_findReader 12 = .ok (.if_icmp .ge 17, 3) := by decide +kernel
theorem dX6_findReader_15 : decode cX6_findReader 15 = .ok (.aload_n 0, 1) := by decide +kernel
theorem dX6_findReader_16 : decode cX6_findReader 16 = .ok (.getfield 12, 3) := by decide +kernel
theorem dX6_findReader_19 : decode cX6_findReader 19 = .ok (.iload_n 1, 1) := by decide +kernel
theorem dX6_findReader_20 : decode cX6_findReader 20 = .ok (.invokevirtual 227, 3) := by decide +kernel
theorem dX6_findReader_23 : decode cX6_findReader 23 = .ok (.checkcast 100, 3) := by decide +kernel
theorem dX6_findReader_26 : decode cX6_findReader 26 = .ok (.goto 4, 3) := by decide +kernel
theorem dX6_findReader_29 : decode cX6_findReader 29 = .ok (.aconst_null, 1) := by decide +kernel
theorem dX6_findReader_30 : decode cX6_findReader 30 = .ok (.areturn, 1) := by decide +kernel
def B_WR_findReader_30 (mc ms : Nat) (Rt : Option zAV → zMp → Prop) (g : Nat → zKT) : zKT :=
  (i_aret mc ms Rt)
set_option maxRecDepth 20000 in
theorem s_WR_findReader_30 {X : zMa} {mc ms : Nat} {Rt : Option zAV → zMp → Prop} (hC : zCx X RX6 cX6_findReader 3 64 mc ms (some (.object "WishRoutes$Reader")) false Rt) : zLe (B_WR_findReader_30 mc ms Rt (zG X)) (zG X 30) :=
  (sd_aret hC (Or.inl ⟨_, rfl⟩) dX6_findReader_30)
def B_WR_findReader_29 (mc ms : Nat) (Rt : Option zAV → zMp → Prop) (g : Nat → zKT) : zKT :=
  (i_nul (B_WR_findReader_30 mc ms Rt g))
set_option maxRecDepth 20000 in
theorem s_WR_findReader_29 {X : zMa} {mc ms : Nat} {Rt : Option zAV → zMp → Prop} (hC : zCx X RX6 cX6_findReader 3 64 mc ms (some (.object "WishRoutes$Reader")) false Rt) : zLe (B_WR_findReader_29 mc ms Rt (zG X)) (zG X 29) :=
  (sd_nul hC dX6_findReader_29 (s_WR_findReader_30 hC))
def B_WR_findReader_0 (mc ms : Nat) (Rt : Option zAV → zMp → Prop) (g : Nat → zKT) : zKT :=
  (i_il 1 (i_iflt (B_WR_findReader_29 mc ms Rt g) (i_il 1 (i_al 0 (i_gf 7 0 (i_callV mc ms 0 1 T_AL_size co_AL_size (i_icge (B_WR_findReader_29 mc ms Rt g) (i_al 0 (i_gf 7 0 (i_il 1 (i_callV mc ms 0 2 T_AL_get co_AL_get (i_cast "WishRoutes$Reader" (B_WR_findReader_30 mc ms Rt g)))))))))))))
set_option maxRecDepth 20000 in
theorem s_WR_findReader_0 {X : zMa} {mc ms : Nat} {Rt : Option zAV → zMp → Prop} (hC : zCx X RX6 cX6_findReader 3 64 mc ms (some (.object "WishRoutes$Reader")) false Rt) : zLe (B_WR_findReader_0 mc ms Rt (zG X)) (zG X 0) :=
  (sd_il_n hC rfl dX6_findReader_0 ((sd_iflt hC (tgt := 29) (by decide) dX6_findReader_1 (s_WR_findReader_29 hC) ((sd_il_n hC rfl dX6_findReader_4 ((sd_al_n hC rfl dX6_findReader_5 ((sd_gf hC (ci := 7) (fk := 0) rfl wi_WR (by decide) fl_WR_12 (Or.inl rfl) dX6_findReader_6 ((sd_cV hC c_AL_size yv_AL_size (ci := 0) rfl rfl ml_WR_96 (by decide) (by decide) dX6_findReader_9 ((sd_icge hC (tgt := 29) (by decide) dX6_findReader_12 (s_WR_findReader_29 hC) ((sd_al_n hC rfl dX6_findReader_15 ((sd_gf hC (ci := 7) (fk := 0) rfl wi_WR (by decide) fl_WR_12 (Or.inl rfl) dX6_findReader_16 ((sd_il_n hC rfl dX6_findReader_19 ((sd_cV hC c_AL_get yv_AL_get (ci := 0) rfl rfl ml_WR_227 (by decide) (by decide) dX6_findReader_20 ((sd_cast hC cl_WR_100 dX6_findReader_23 ((sd_goto hC (tgt := 30) (by decide) dX6_findReader_26 (s_WR_findReader_30 hC))))))))))))))))))))))))))
theorem c_WR_findReader (l : Launch) : zCT l yX6_findReader cX6_findReader 2 (some (.object "WishRoutes$Reader")) 3 64 T_WR_findReader co_WR_findReader := by
  intro As M Rt hT
  obtain ⟨x, d, rfl, rfl, hI, hR⟩ := hT
  refine zMet_of false (by decide +kernel) (fun h => by first | rfl | cases h) (Nat.le_of_ble_eq_true rfl) (fun X hN hC => ?_)
  show zG X 0 [some (.inr (0, 0, 0)), some (.inl (.int d))] [] (pic x) 0 0
  refine s_WR_findReader_0 hC _ _ _ _ _ ?_
  have hsz : x_sz x 0 = x_nr x := rfl
  have hb : x_nr x < 2 ^ 31 := by have := hI.lim.1; omega
  simp only [B_WR_findReader_0, B_WR_findReader_29, B_WR_findReader_30, co_AL_get, co_AL_size, co_WR_findReader, i_ic, i_lc, i_nul, i_il, i_ll, i_al, i_is, i_as, i_ls, i_inc, i_iadd, i_isub, i_imul, i_iand, i_ior, i_ixor, i_idiv, i_irem, i_ishl, i_ishr, i_ladd, i_lsub, i_land, i_lor, i_i2l, i_lushr, i_lshl, i_lshr, i_lcmp, i_dup, i_pop, i_dx1, i_dup2, i_ifeq, i_ifne, i_iflt, i_ifge, i_ifgt, i_ifle, i_iceq, i_icne, i_iclt, i_icge, i_icgt, i_icle, i_ifn, i_gf, i_pf, i_ial, i_bal, i_lal, i_aal, i_ias, i_las, i_bas, i_aas, i_alen, i_newa, i_new, i_anew, i_cast, i_oi, i_call, i_callV, i_callV2, i_callI, i_iret, i_zret, i_lret, i_vret, i_aret, i_mmx, i_mmn, i_gsE, i_aceq, i_no, i_acq, i_sw, zsw, zlg, zls, znl, zfg, zcs, zsp, zrc, zisn, zft, zc1, zto, Value.category, List.set_cons_zero, List.set_cons_succ, List.length_cons, List.length_nil, Option.toList, List.append, List.nil_append, List.cons_append, true_and, and_true, Nat.add_zero, Nat.zero_le, Nat.zero_add, Nat.le_refl, Nat.reduceAdd, Nat.reduceLeDiff, co0, z0, zn_0, zn_1, zn_2, zn_3, zn_4, zn_5, zn_8, zn_12, zn_24, zn_121, zn_144, zn_256, zn_300, zn_600, zn_720, zn_1204, zn_1280, zn_2400, zn_4816, zn_14400, zn_90000, p_main, x_main, p_list (i := 0) (by decide)]
  refine ⟨fun h => ?_, fun h => ⟨(1, 0, 0), _, _, _, rfl, p_list (by decide), ?_⟩⟩
  · unfold fnd at hR
    rw [if_neg (fun q => (zd_i.mp q).1 h)] at hR
    exact hR
  · rw [hsz]
    simp only [p_main, x_main, p_list (i := 0) (by decide), i_ic, i_lc, i_nul, i_il, i_ll, i_al, i_is, i_as, i_ls, i_inc, i_iadd, i_isub, i_imul, i_iand, i_ior, i_ixor, i_idiv, i_irem, i_ishl, i_ishr, i_ladd, i_lsub, i_land, i_lor, i_i2l, i_lushr, i_lshl, i_lshr, i_lcmp, i_dup, i_pop, i_dx1, i_dup2, i_ifeq, i_ifne, i_iflt, i_ifge, i_ifgt, i_ifle, i_iceq, i_icne, i_iclt, i_icge, i_icgt, i_icle, i_ifn, i_gf, i_pf, i_ial, i_bal, i_lal, i_aal, i_ias, i_las, i_bas, i_aas, i_alen, i_newa, i_new, i_anew, i_cast, i_oi, i_call, i_callV, i_callV2, i_callI, i_iret, i_zret, i_lret, i_vret, i_aret, i_mmx, i_mmn, i_gsE, i_aceq, i_no, i_acq, i_sw, zsw, zlg, zls, znl, zfg, zcs, zsp, zrc, zisn, zft, zc1, zto, Value.category, List.set_cons_zero, List.set_cons_succ, List.length_cons, List.length_nil, Option.toList, List.append, List.nil_append, List.cons_append, true_and, and_true, Nat.add_zero, Nat.zero_le, Nat.zero_add, Nat.le_refl, Nat.reduceAdd, Nat.reduceLeDiff, co0, z0, zn_0, zn_1, zn_2, zn_3, zn_4, zn_5, zn_8, zn_12, zn_24, zn_121, zn_144, zn_256, zn_300, zn_600, zn_720, zn_1204, zn_1280, zn_2400, zn_4816, zn_14400, zn_90000]
    refine ⟨fun h' => ?_, fun h' => ?_⟩
    · unfold fnd at hR
      rw [if_neg (fun q => absurd (zd_i.mp q).2 (Int32.not_lt.mpr h'))] at hR
      exact hR
    · obtain ⟨k, hk, rfl⟩ := isn_t hb (zd_t ⟨h, Int32.not_le.mp h'⟩)
      rw [fnd_n hb hk] at hR
      have hc := hI.cap 0 (by decide)
      rw [hsz] at hc
      have ek : x_el x 0 k = some (10, k, 0) := if_pos hk
      refine ⟨(1, 0, 0), _, _, _, _, _, k, rfl, p_list (by decide), p_dat (by decide) (by omega), by rw [hsz]; exact hk, by rw [hsz]; exact hc.1, by omega, ?_⟩
      rw [ek]
      have hkk : k < x_or x := Nat.lt_of_lt_of_le hk hI.cnt.1
      simp only [zov, zok, p_rdr hkk, x_rdr, i_ic, i_lc, i_nul, i_il, i_ll, i_al, i_is, i_as, i_ls, i_inc, i_iadd, i_isub, i_imul, i_iand, i_ior, i_ixor, i_idiv, i_irem, i_ishl, i_ishr, i_ladd, i_lsub, i_land, i_lor, i_i2l, i_lushr, i_lshl, i_lshr, i_lcmp, i_dup, i_pop, i_dx1, i_dup2, i_ifeq, i_ifne, i_iflt, i_ifge, i_ifgt, i_ifle, i_iceq, i_icne, i_iclt, i_icge, i_icgt, i_icle, i_ifn, i_gf, i_pf, i_ial, i_bal, i_lal, i_aal, i_ias, i_las, i_bas, i_aas, i_alen, i_newa, i_new, i_anew, i_cast, i_oi, i_call, i_callV, i_callV2, i_callI, i_iret, i_zret, i_lret, i_vret, i_aret, i_mmx, i_mmn, i_gsE, i_aceq, i_no, i_acq, i_sw, zsw, zlg, zls, znl, zfg, zcs, zsp, zrc, zisn, zft, zc1, zto, Value.category, List.set_cons_zero, List.set_cons_succ, List.length_cons, List.length_nil, Option.toList, List.append, List.nil_append, List.cons_append, true_and, and_true, Nat.add_zero, Nat.zero_le, Nat.zero_add, Nat.le_refl, Nat.reduceAdd, Nat.reduceLeDiff, co0, z0, zn_0, zn_1, zn_2, zn_3, zn_4, zn_5, zn_8, zn_12, zn_24, zn_121, zn_144, zn_256, zn_300, zn_600, zn_720, zn_1204, zn_1280, zn_2400, zn_4816, zn_14400, zn_90000]
      exact ⟨zk_Rdr_Rdr, hR⟩
def T_WR_findWish (As : List zAV) (M : zMp) (Rt : Option zAV → zMp → Prop) : Prop := ∃ x d, As = [.inr (0, 0, 0), .inl (.int d)] ∧ M = pic x ∧ Iv x ∧ Rt (some (zov (fnd 15 (x_nw x) d))) M
abbrev co_WR_findWish := co0
theorem dX6_findWish_0 : decode cX6_findWish 0 = .ok (.iload_n 1, 1) := by decide +kernel
theorem dX6_findWish_1 : decode cX6_findWish 1 = .ok (.ifCond .lt 28, 3) := by decide +kernel
theorem dX6_findWish_4 : decode cX6_findWish 4 = .ok (.iload_n 1, 1) := by decide +kernel
theorem dX6_findWish_5 : decode cX6_findWish 5 = .ok (.aload_n 0, 1) := by decide +kernel
theorem dX6_findWish_6 : decode cX6_findWish 6 = .ok (.getfield 16, 3) := by decide +kernel
theorem dX6_findWish_9 : decode cX6_findWish 9 = .ok (.invokevirtual 96, 3) := by decide +kernel
theorem dX6_findWish_12 : decode cX6_findWish 12 = .ok (.if_icmp .ge 17, 3) := by decide +kernel
theorem dX6_findWish_15 : decode cX6_findWish 15 = .ok (.aload_n 0, 1) := by decide +kernel
theorem dX6_findWish_16 : decode cX6_findWish 16 = .ok (.getfield 16, 3) := by decide +kernel
theorem dX6_findWish_19 : decode cX6_findWish 19 = .ok (.iload_n 1, 1) := by decide +kernel
theorem dX6_findWish_20 : decode cX6_findWish 20 = .ok (.invokevirtual 227, 3) := by decide +kernel
theorem dX6_findWish_23 : decode cX6_findWish 23 = .ok (.checkcast 127, 3) := by decide +kernel
theorem dX6_findWish_26 : decode cX6_findWish 26 = .ok (.goto 4, 3) := by decide +kernel
theorem dX6_findWish_29 : decode cX6_findWish 29 = .ok (.aconst_null, 1) := by decide +kernel
theorem dX6_findWish_30 : decode cX6_findWish 30 = .ok (.areturn, 1) := by decide +kernel
def B_WR_findWish_30 (mc ms : Nat) (Rt : Option zAV → zMp → Prop) (g : Nat → zKT) : zKT :=
  (i_aret mc ms Rt)
set_option maxRecDepth 20000 in
theorem s_WR_findWish_30 {X : zMa} {mc ms : Nat} {Rt : Option zAV → zMp → Prop} (hC : zCx X RX6 cX6_findWish 3 64 mc ms (some (.object "WishRoutes$Wish")) false Rt) : zLe (B_WR_findWish_30 mc ms Rt (zG X)) (zG X 30) :=
  (sd_aret hC (Or.inl ⟨_, rfl⟩) dX6_findWish_30)
def B_WR_findWish_29 (mc ms : Nat) (Rt : Option zAV → zMp → Prop) (g : Nat → zKT) : zKT :=
  (i_nul (B_WR_findWish_30 mc ms Rt g))
set_option maxRecDepth 20000 in
theorem s_WR_findWish_29 {X : zMa} {mc ms : Nat} {Rt : Option zAV → zMp → Prop} (hC : zCx X RX6 cX6_findWish 3 64 mc ms (some (.object "WishRoutes$Wish")) false Rt) : zLe (B_WR_findWish_29 mc ms Rt (zG X)) (zG X 29) :=
  (sd_nul hC dX6_findWish_29 (s_WR_findWish_30 hC))
def B_WR_findWish_0 (mc ms : Nat) (Rt : Option zAV → zMp → Prop) (g : Nat → zKT) : zKT :=
  (i_il 1 (i_iflt (B_WR_findWish_29 mc ms Rt g) (i_il 1 (i_al 0 (i_gf 7 1 (i_callV mc ms 0 1 T_AL_size co_AL_size (i_icge (B_WR_findWish_29 mc ms Rt g) (i_al 0 (i_gf 7 1 (i_il 1 (i_callV mc ms 0 2 T_AL_get co_AL_get (i_cast "WishRoutes$Wish" (B_WR_findWish_30 mc ms Rt g)))))))))))))
set_option maxRecDepth 20000 in
theorem s_WR_findWish_0 {X : zMa} {mc ms : Nat} {Rt : Option zAV → zMp → Prop} (hC : zCx X RX6 cX6_findWish 3 64 mc ms (some (.object "WishRoutes$Wish")) false Rt) : zLe (B_WR_findWish_0 mc ms Rt (zG X)) (zG X 0) :=
  (sd_il_n hC rfl dX6_findWish_0 ((sd_iflt hC (tgt := 29) (by decide) dX6_findWish_1 (s_WR_findWish_29 hC) ((sd_il_n hC rfl dX6_findWish_4 ((sd_al_n hC rfl dX6_findWish_5 ((sd_gf hC (ci := 7) (fk := 1) rfl wi_WR (by decide) fl_WR_16 (Or.inl rfl) dX6_findWish_6 ((sd_cV hC c_AL_size yv_AL_size (ci := 0) rfl rfl ml_WR_96 (by decide) (by decide) dX6_findWish_9 ((sd_icge hC (tgt := 29) (by decide) dX6_findWish_12 (s_WR_findWish_29 hC) ((sd_al_n hC rfl dX6_findWish_15 ((sd_gf hC (ci := 7) (fk := 1) rfl wi_WR (by decide) fl_WR_16 (Or.inl rfl) dX6_findWish_16 ((sd_il_n hC rfl dX6_findWish_19 ((sd_cV hC c_AL_get yv_AL_get (ci := 0) rfl rfl ml_WR_227 (by decide) (by decide) dX6_findWish_20 ((sd_cast hC cl_WR_127 dX6_findWish_23 ((sd_goto hC (tgt := 30) (by decide) dX6_findWish_26 (s_WR_findWish_30 hC))))))))))))))))))))))))))
theorem c_WR_findWish (l : Launch) : zCT l yX6_findWish cX6_findWish 2 (some (.object "WishRoutes$Wish")) 3 64 T_WR_findWish co_WR_findWish := by
  intro As M Rt hT
  obtain ⟨x, d, rfl, rfl, hI, hR⟩ := hT
  refine zMet_of false (by decide +kernel) (fun h => by first | rfl | cases h) (Nat.le_of_ble_eq_true rfl) (fun X hN hC => ?_)
  show zG X 0 [some (.inr (0, 0, 0)), some (.inl (.int d))] [] (pic x) 0 0
  refine s_WR_findWish_0 hC _ _ _ _ _ ?_
  have hsz : x_sz x 1 = x_nw x := rfl
  have hb : x_nw x < 2 ^ 31 := by have := hI.lim.2.1; omega
  simp only [B_WR_findWish_0, B_WR_findWish_29, B_WR_findWish_30, co_AL_get, co_AL_size, co_WR_findWish, i_ic, i_lc, i_nul, i_il, i_ll, i_al, i_is, i_as, i_ls, i_inc, i_iadd, i_isub, i_imul, i_iand, i_ior, i_ixor, i_idiv, i_irem, i_ishl, i_ishr, i_ladd, i_lsub, i_land, i_lor, i_i2l, i_lushr, i_lshl, i_lshr, i_lcmp, i_dup, i_pop, i_dx1, i_dup2, i_ifeq, i_ifne, i_iflt, i_ifge, i_ifgt, i_ifle, i_iceq, i_icne, i_iclt, i_icge, i_icgt, i_icle, i_ifn, i_gf, i_pf, i_ial, i_bal, i_lal, i_aal, i_ias, i_las, i_bas, i_aas, i_alen, i_newa, i_new, i_anew, i_cast, i_oi, i_call, i_callV, i_callV2, i_callI, i_iret, i_zret, i_lret, i_vret, i_aret, i_mmx, i_mmn, i_gsE, i_aceq, i_no, i_acq, i_sw, zsw, zlg, zls, znl, zfg, zcs, zsp, zrc, zisn, zft, zc1, zto, Value.category, List.set_cons_zero, List.set_cons_succ, List.length_cons, List.length_nil, Option.toList, List.append, List.nil_append, List.cons_append, true_and, and_true, Nat.add_zero, Nat.zero_le, Nat.zero_add, Nat.le_refl, Nat.reduceAdd, Nat.reduceLeDiff, co0, z0, zn_0, zn_1, zn_2, zn_3, zn_4, zn_5, zn_8, zn_12, zn_24, zn_121, zn_144, zn_256, zn_300, zn_600, zn_720, zn_1204, zn_1280, zn_2400, zn_4816, zn_14400, zn_90000, p_main, x_main, p_list (i := 1) (by decide)]
  refine ⟨fun h => ?_, fun h => ⟨(1, 1, 0), _, _, _, rfl, p_list (by decide), ?_⟩⟩
  · unfold fnd at hR
    rw [if_neg (fun q => (zd_i.mp q).1 h)] at hR
    exact hR
  · rw [hsz]
    simp only [p_main, x_main, p_list (i := 1) (by decide), i_ic, i_lc, i_nul, i_il, i_ll, i_al, i_is, i_as, i_ls, i_inc, i_iadd, i_isub, i_imul, i_iand, i_ior, i_ixor, i_idiv, i_irem, i_ishl, i_ishr, i_ladd, i_lsub, i_land, i_lor, i_i2l, i_lushr, i_lshl, i_lshr, i_lcmp, i_dup, i_pop, i_dx1, i_dup2, i_ifeq, i_ifne, i_iflt, i_ifge, i_ifgt, i_ifle, i_iceq, i_icne, i_iclt, i_icge, i_icgt, i_icle, i_ifn, i_gf, i_pf, i_ial, i_bal, i_lal, i_aal, i_ias, i_las, i_bas, i_aas, i_alen, i_newa, i_new, i_anew, i_cast, i_oi, i_call, i_callV, i_callV2, i_callI, i_iret, i_zret, i_lret, i_vret, i_aret, i_mmx, i_mmn, i_gsE, i_aceq, i_no, i_acq, i_sw, zsw, zlg, zls, znl, zfg, zcs, zsp, zrc, zisn, zft, zc1, zto, Value.category, List.set_cons_zero, List.set_cons_succ, List.length_cons, List.length_nil, Option.toList, List.append, List.nil_append, List.cons_append, true_and, and_true, Nat.add_zero, Nat.zero_le, Nat.zero_add, Nat.le_refl, Nat.reduceAdd, Nat.reduceLeDiff, co0, z0, zn_0, zn_1, zn_2, zn_3, zn_4, zn_5, zn_8, zn_12, zn_24, zn_121, zn_144, zn_256, zn_300, zn_600, zn_720, zn_1204, zn_1280, zn_2400, zn_4816, zn_14400, zn_90000]
    refine ⟨fun h' => ?_, fun h' => ?_⟩
    · unfold fnd at hR
      rw [if_neg (fun q => absurd (zd_i.mp q).2 (Int32.not_lt.mpr h'))] at hR
      exact hR
    · obtain ⟨k, hk, rfl⟩ := isn_t hb (zd_t ⟨h, Int32.not_le.mp h'⟩)
      rw [fnd_n hb hk] at hR
      have hc := hI.cap 1 (by decide)
      rw [hsz] at hc
      have ek : x_el x 1 k = some (15, k, 0) := if_pos hk
      refine ⟨(1, 1, 0), _, _, _, _, _, k, rfl, p_list (by decide), p_dat (by decide) (by omega), by rw [hsz]; exact hk, by rw [hsz]; exact hc.1, by omega, ?_⟩
      rw [ek]
      have hkk : k < x_ow x := Nat.lt_of_lt_of_le hk hI.cnt.2.1
      simp only [zov, zok, p_wsh hkk, x_wsh, i_ic, i_lc, i_nul, i_il, i_ll, i_al, i_is, i_as, i_ls, i_inc, i_iadd, i_isub, i_imul, i_iand, i_ior, i_ixor, i_idiv, i_irem, i_ishl, i_ishr, i_ladd, i_lsub, i_land, i_lor, i_i2l, i_lushr, i_lshl, i_lshr, i_lcmp, i_dup, i_pop, i_dx1, i_dup2, i_ifeq, i_ifne, i_iflt, i_ifge, i_ifgt, i_ifle, i_iceq, i_icne, i_iclt, i_icge, i_icgt, i_icle, i_ifn, i_gf, i_pf, i_ial, i_bal, i_lal, i_aal, i_ias, i_las, i_bas, i_aas, i_alen, i_newa, i_new, i_anew, i_cast, i_oi, i_call, i_callV, i_callV2, i_callI, i_iret, i_zret, i_lret, i_vret, i_aret, i_mmx, i_mmn, i_gsE, i_aceq, i_no, i_acq, i_sw, zsw, zlg, zls, znl, zfg, zcs, zsp, zrc, zisn, zft, zc1, zto, Value.category, List.set_cons_zero, List.set_cons_succ, List.length_cons, List.length_nil, Option.toList, List.append, List.nil_append, List.cons_append, true_and, and_true, Nat.add_zero, Nat.zero_le, Nat.zero_add, Nat.le_refl, Nat.reduceAdd, Nat.reduceLeDiff, co0, z0, zn_0, zn_1, zn_2, zn_3, zn_4, zn_5, zn_8, zn_12, zn_24, zn_121, zn_144, zn_256, zn_300, zn_600, zn_720, zn_1204, zn_1280, zn_2400, zn_4816, zn_14400, zn_90000]
      exact ⟨zk_Wsh_Wsh, hR⟩
def T_WR_findNotice (As : List zAV) (M : zMp) (Rt : Option zAV → zMp → Prop) : Prop := ∃ x d, As = [.inr (0, 0, 0), .inl (.int d)] ∧ M = pic x ∧ Iv x ∧ Rt (some (zov (fnd 12 (x_nn x) d))) M
abbrev co_WR_findNotice := co0
theorem dX6_findNotice_0 : decode cX6_findNotice 0 = .ok (.iload_n 1, 1) := by decide +kernel
theorem dX6_findNotice_1 : decode cX6_findNotice 1 = .ok (.ifCond .lt 28, 3) := by decide +kernel
theorem dX6_findNotice_4 : decode cX6_findNotice 4 = .ok (.iload_n 1, 1) := by decide +kernel
theorem dX6_findNotice_5 : decode cX6_findNotice 5 = .ok (.aload_n 0, 1) := by decide +kernel
theorem dX6_findNotice_6 : decode cX6_findNotice 6 = .ok (.getfield 19, 3) := by decide +kernel
theorem dX6_findNotice_9 : decode cX6_findNotice 9 = .ok (.invokevirtual 96, 3) := by decide +kernel
theorem dX6_findNotice_12 : decode cX6_findNotice 12 = .ok (.if_icmp .ge 17, 3) := by decide +kernel
theorem dX6_findNotice_15 : decode cX6_findNotice 15 = .ok (.aload_n 0, 1) := by decide +kernel
theorem dX6_findNotice_16 : decode cX6_findNotice 16 = .ok (.getfield 19, 3) := by decide +kernel
theorem dX6_findNotice_19 : decode cX6_findNotice 19 = .ok (.iload_n 1, 1) := by decide +kernel
theorem dX6_findNotice_20 : decode cX6_findNotice 20 = .ok (.invokevirtual 227, 3) := by decide +kernel
theorem dX6_findNotice_23 : decode cX6_findNotice 23 = .ok (.checkcast 151, 3) := by decide +kernel
theorem dX6_findNotice_26 : decode cX6_findNotice 26 = .ok (.goto 4, 3) := by decide +kernel
theorem dX6_findNotice_29 : decode cX6_findNotice 29 = .ok (.aconst_null, 1) := by decide +kernel
theorem dX6_findNotice_30 : decode cX6_findNotice 30 = .ok (.areturn, 1) := by decide +kernel
def B_WR_findNotice_30 (mc ms : Nat) (Rt : Option zAV → zMp → Prop) (g : Nat → zKT) : zKT :=
  (i_aret mc ms Rt)
set_option maxRecDepth 20000 in
theorem s_WR_findNotice_30 {X : zMa} {mc ms : Nat} {Rt : Option zAV → zMp → Prop} (hC : zCx X RX6 cX6_findNotice 3 64 mc ms (some (.object "WishRoutes$Notice")) false Rt) : zLe (B_WR_findNotice_30 mc ms Rt (zG X)) (zG X 30) :=
  (sd_aret hC (Or.inl ⟨_, rfl⟩) dX6_findNotice_30)
def B_WR_findNotice_29 (mc ms : Nat) (Rt : Option zAV → zMp → Prop) (g : Nat → zKT) : zKT :=
  (i_nul (B_WR_findNotice_30 mc ms Rt g))
set_option maxRecDepth 20000 in
theorem s_WR_findNotice_29 {X : zMa} {mc ms : Nat} {Rt : Option zAV → zMp → Prop} (hC : zCx X RX6 cX6_findNotice 3 64 mc ms (some (.object "WishRoutes$Notice")) false Rt) : zLe (B_WR_findNotice_29 mc ms Rt (zG X)) (zG X 29) :=
  (sd_nul hC dX6_findNotice_29 (s_WR_findNotice_30 hC))
def B_WR_findNotice_0 (mc ms : Nat) (Rt : Option zAV → zMp → Prop) (g : Nat → zKT) : zKT :=
  (i_il 1 (i_iflt (B_WR_findNotice_29 mc ms Rt g) (i_il 1 (i_al 0 (i_gf 7 2 (i_callV mc ms 0 1 T_AL_size co_AL_size (i_icge (B_WR_findNotice_29 mc ms Rt g) (i_al 0 (i_gf 7 2 (i_il 1 (i_callV mc ms 0 2 T_AL_get co_AL_get (i_cast "WishRoutes$Notice" (B_WR_findNotice_30 mc ms Rt g)))))))))))))
set_option maxRecDepth 20000 in
theorem s_WR_findNotice_0 {X : zMa} {mc ms : Nat} {Rt : Option zAV → zMp → Prop} (hC : zCx X RX6 cX6_findNotice 3 64 mc ms (some (.object "WishRoutes$Notice")) false Rt) : zLe (B_WR_findNotice_0 mc ms Rt (zG X)) (zG X 0) :=
  (sd_il_n hC rfl dX6_findNotice_0 ((sd_iflt hC (tgt := 29) (by decide) dX6_findNotice_1 (s_WR_findNotice_29 hC) ((sd_il_n hC rfl dX6_findNotice_4 ((sd_al_n hC rfl dX6_findNotice_5 ((sd_gf hC (ci := 7) (fk := 2) rfl wi_WR (by decide) fl_WR_19 (Or.inl rfl) dX6_findNotice_6 ((sd_cV hC c_AL_size yv_AL_size (ci := 0) rfl rfl ml_WR_96 (by decide) (by decide) dX6_findNotice_9 ((sd_icge hC (tgt := 29) (by decide) dX6_findNotice_12 (s_WR_findNotice_29 hC) ((sd_al_n hC rfl dX6_findNotice_15 ((sd_gf hC (ci := 7) (fk := 2) rfl wi_WR (by decide) fl_WR_19 (Or.inl rfl) dX6_findNotice_16 ((sd_il_n hC rfl dX6_findNotice_19 ((sd_cV hC c_AL_get yv_AL_get (ci := 0) rfl rfl ml_WR_227 (by decide) (by decide) dX6_findNotice_20 ((sd_cast hC cl_WR_151 dX6_findNotice_23 ((sd_goto hC (tgt := 30) (by decide) dX6_findNotice_26 (s_WR_findNotice_30 hC))))))))))))))))))))))))))
theorem c_WR_findNotice (l : Launch) : zCT l yX6_findNotice cX6_findNotice 2 (some (.object "WishRoutes$Notice")) 3 64 T_WR_findNotice co_WR_findNotice := by
  intro As M Rt hT
  obtain ⟨x, d, rfl, rfl, hI, hR⟩ := hT
  refine zMet_of false (by decide +kernel) (fun h => by first | rfl | cases h) (Nat.le_of_ble_eq_true rfl) (fun X hN hC => ?_)
  show zG X 0 [some (.inr (0, 0, 0)), some (.inl (.int d))] [] (pic x) 0 0
  refine s_WR_findNotice_0 hC _ _ _ _ _ ?_
  have hsz : x_sz x 2 = x_nn x := rfl
  have hb : x_nn x < 2 ^ 31 := by have := hI.lim.2.2.1; omega
  simp only [B_WR_findNotice_0, B_WR_findNotice_29, B_WR_findNotice_30, co_AL_get, co_AL_size, co_WR_findNotice, i_ic, i_lc, i_nul, i_il, i_ll, i_al, i_is, i_as, i_ls, i_inc, i_iadd, i_isub, i_imul, i_iand, i_ior, i_ixor, i_idiv, i_irem, i_ishl, i_ishr, i_ladd, i_lsub, i_land, i_lor, i_i2l, i_lushr, i_lshl, i_lshr, i_lcmp, i_dup, i_pop, i_dx1, i_dup2, i_ifeq, i_ifne, i_iflt, i_ifge, i_ifgt, i_ifle, i_iceq, i_icne, i_iclt, i_icge, i_icgt, i_icle, i_ifn, i_gf, i_pf, i_ial, i_bal, i_lal, i_aal, i_ias, i_las, i_bas, i_aas, i_alen, i_newa, i_new, i_anew, i_cast, i_oi, i_call, i_callV, i_callV2, i_callI, i_iret, i_zret, i_lret, i_vret, i_aret, i_mmx, i_mmn, i_gsE, i_aceq, i_no, i_acq, i_sw, zsw, zlg, zls, znl, zfg, zcs, zsp, zrc, zisn, zft, zc1, zto, Value.category, List.set_cons_zero, List.set_cons_succ, List.length_cons, List.length_nil, Option.toList, List.append, List.nil_append, List.cons_append, true_and, and_true, Nat.add_zero, Nat.zero_le, Nat.zero_add, Nat.le_refl, Nat.reduceAdd, Nat.reduceLeDiff, co0, z0, zn_0, zn_1, zn_2, zn_3, zn_4, zn_5, zn_8, zn_12, zn_24, zn_121, zn_144, zn_256, zn_300, zn_600, zn_720, zn_1204, zn_1280, zn_2400, zn_4816, zn_14400, zn_90000, p_main, x_main, p_list (i := 2) (by decide)]
  refine ⟨fun h => ?_, fun h => ⟨(1, 2, 0), _, _, _, rfl, p_list (by decide), ?_⟩⟩
  · unfold fnd at hR
    rw [if_neg (fun q => (zd_i.mp q).1 h)] at hR
    exact hR
  · rw [hsz]
    simp only [p_main, x_main, p_list (i := 2) (by decide), i_ic, i_lc, i_nul, i_il, i_ll, i_al, i_is, i_as, i_ls, i_inc, i_iadd, i_isub, i_imul, i_iand, i_ior, i_ixor, i_idiv, i_irem, i_ishl, i_ishr, i_ladd, i_lsub, i_land, i_lor, i_i2l, i_lushr, i_lshl, i_lshr, i_lcmp, i_dup, i_pop, i_dx1, i_dup2, i_ifeq, i_ifne, i_iflt, i_ifge, i_ifgt, i_ifle, i_iceq, i_icne, i_iclt, i_icge, i_icgt, i_icle, i_ifn, i_gf, i_pf, i_ial, i_bal, i_lal, i_aal, i_ias, i_las, i_bas, i_aas, i_alen, i_newa, i_new, i_anew, i_cast, i_oi, i_call, i_callV, i_callV2, i_callI, i_iret, i_zret, i_lret, i_vret, i_aret, i_mmx, i_mmn, i_gsE, i_aceq, i_no, i_acq, i_sw, zsw, zlg, zls, znl, zfg, zcs, zsp, zrc, zisn, zft, zc1, zto, Value.category, List.set_cons_zero, List.set_cons_succ, List.length_cons, List.length_nil, Option.toList, List.append, List.nil_append, List.cons_append, true_and, and_true, Nat.add_zero, Nat.zero_le, Nat.zero_add, Nat.le_refl, Nat.reduceAdd, Nat.reduceLeDiff, co0, z0, zn_0, zn_1, zn_2, zn_3, zn_4, zn_5, zn_8, zn_12, zn_24, zn_121, zn_144, zn_256, zn_300, zn_600, zn_720, zn_1204, zn_1280, zn_2400, zn_4816, zn_14400, zn_90000]
    refine ⟨fun h' => ?_, fun h' => ?_⟩
    · unfold fnd at hR
      rw [if_neg (fun q => absurd (zd_i.mp q).2 (Int32.not_lt.mpr h'))] at hR
      exact hR
    · obtain ⟨k, hk, rfl⟩ := isn_t hb (zd_t ⟨h, Int32.not_le.mp h'⟩)
      rw [fnd_n hb hk] at hR
      have hc := hI.cap 2 (by decide)
      rw [hsz] at hc
      have ek : x_el x 2 k = some (12, k, 0) := if_pos hk
      refine ⟨(1, 2, 0), _, _, _, _, _, k, rfl, p_list (by decide), p_dat (by decide) (by omega), by rw [hsz]; exact hk, by rw [hsz]; exact hc.1, by omega, ?_⟩
      rw [ek]
      have hkk : k < x_on x := Nat.lt_of_lt_of_le hk hI.cnt.2.2
      simp only [zov, zok, p_ntc hkk, x_ntc, i_ic, i_lc, i_nul, i_il, i_ll, i_al, i_is, i_as, i_ls, i_inc, i_iadd, i_isub, i_imul, i_iand, i_ior, i_ixor, i_idiv, i_irem, i_ishl, i_ishr, i_ladd, i_lsub, i_land, i_lor, i_i2l, i_lushr, i_lshl, i_lshr, i_lcmp, i_dup, i_pop, i_dx1, i_dup2, i_ifeq, i_ifne, i_iflt, i_ifge, i_ifgt, i_ifle, i_iceq, i_icne, i_iclt, i_icge, i_icgt, i_icle, i_ifn, i_gf, i_pf, i_ial, i_bal, i_lal, i_aal, i_ias, i_las, i_bas, i_aas, i_alen, i_newa, i_new, i_anew, i_cast, i_oi, i_call, i_callV, i_callV2, i_callI, i_iret, i_zret, i_lret, i_vret, i_aret, i_mmx, i_mmn, i_gsE, i_aceq, i_no, i_acq, i_sw, zsw, zlg, zls, znl, zfg, zcs, zsp, zrc, zisn, zft, zc1, zto, Value.category, List.set_cons_zero, List.set_cons_succ, List.length_cons, List.length_nil, Option.toList, List.append, List.nil_append, List.cons_append, true_and, and_true, Nat.add_zero, Nat.zero_le, Nat.zero_add, Nat.le_refl, Nat.reduceAdd, Nat.reduceLeDiff, co0, z0, zn_0, zn_1, zn_2, zn_3, zn_4, zn_5, zn_8, zn_12, zn_24, zn_121, zn_144, zn_256, zn_300, zn_600, zn_720, zn_1204, zn_1280, zn_2400, zn_4816, zn_14400, zn_90000]
      exact ⟨zk_Not_Not, hR⟩
/-- the lane from u to v -/
noncomputable def lnF (x : zSt) (u v : Int32) : Option Nat := if isn (x_dk x) u = true ∧ isn (x_dk x) v = true then x_ln x (12 * u.toNatClampNeg + v.toNatClampNeg) else none
theorem lnF_n {x : zSt} {u v : Nat} (hd : x_dk x ≤ 12) (hu : u < x_dk x) (hv : v < x_dk x) : lnF x (nI u) (nI v) = x_ln x (12 * u + v) := by
  unfold lnF
  rw [if_pos ⟨isn_n (by omega) hu, isn_n (by omega) hv⟩, nI_clamp (by omega), nI_clamp (by omega)]
abbrev zln (r : Option Nat) : Option zNm := r.map (fun l => (16, l, 0))
def T_WR_laneFrom (As : List zAV) (M : zMp) (Rt : Option zAV → zMp → Prop) : Prop := ∃ x u v, As = [.inr (0, 0, 0), .inl (.int u), .inl (.int v)] ∧ M = pic x ∧ x_dk x ≤ 12 ∧ Rt (some (zov (zln (lnF x u v)))) M
abbrev co_WR_laneFrom := co0
theorem dX6_laneFrom_0 : decode cX6_laneFrom 0 = .ok (.aload_n 0, 1) := by decide +kernel
theorem dX6_laneFrom_1 : decode cX6_laneFrom 1 = .ok (.iload_n 1, 1) := by decide +kernel
theorem dX6_laneFrom_2 : decode cX6_laneFrom 2 = .ok (.invokevirtual 69, 3) := by decide +kernel
theorem dX6_laneFrom_5 : decode cX6_laneFrom 5 = .ok (.ifCond .eq 25, 3) := by decide +kernel
theorem dX6_laneFrom_8 : decode cX6_laneFrom 8 = .ok (.aload_n 0, 1) := by decide +kernel
theorem dX6_laneFrom_9 : decode cX6_laneFrom 9 = .ok (.iload_n 2, 1) := by decide +kernel
theorem dX6_laneFrom_10 : decode cX6_laneFrom 10 = .ok (.invokevirtual 69, 3) := by decide +kernel
theorem dX6_laneFrom_13 : decode cX6_laneFrom 13 = .ok (.ifCond .eq 17, 3) := by decide +kernel
theorem dX6_laneFrom_16 : decode cX6_laneFrom 16 = .ok (.aload_n 0, 1) := by decide +kernel
theorem dX6_laneFrom_17 : decode cX6_laneFrom 17 = .ok (.getfield 28, 3) := by decide +kernel
theorem dX6_laneFrom_20 : decode cX6_laneFrom 20 = .ok (.iload_n 1, 1) := by decide +kernel
theorem dX6_laneFrom_21 : decode cX6_laneFrom 21 = .ok (.bipush 12, 2) := by decide +kernel
theorem dX6_laneFrom_23 : decode cX6_laneFrom 23 = .ok (.imul, 1) := by decide +kernel
theorem dX6_laneFrom_24 : decode cX6_laneFrom 24 = .ok (.iload_n 2, 1) := by decide +kernel
theorem dX6_laneFrom_25 : decode cX6_laneFrom 25 = .ok (.iadd, 1) := by decide +kernel
theorem dX6_laneFrom_26 : decode cX6_laneFrom 26 = .ok (.aaload, 1) := by decide +kernel
theorem dX6_laneFrom_27 : decode cX6_laneFrom 27 = .ok (.goto 4, 3) := by decide +kernel
theorem dX6_laneFrom_30 : decode cX6_laneFrom 30 = .ok (.aconst_null, 1) := by decide +kernel
theorem dX6_laneFrom_31 : decode cX6_laneFrom 31 = .ok (.areturn, 1) := by decide +kernel
def B_WR_laneFrom_31 (mc ms : Nat) (Rt : Option zAV → zMp → Prop) (g : Nat → zKT) : zKT :=
  (i_aret mc ms Rt)
set_option maxRecDepth 20000 in
theorem s_WR_laneFrom_31 {X : zMa} {mc ms : Nat} {Rt : Option zAV → zMp → Prop} (hC : zCx X RX6 cX6_laneFrom 1 21 mc ms (some (.object "WishRoutes$Lane")) false Rt) : zLe (B_WR_laneFrom_31 mc ms Rt (zG X)) (zG X 31) :=
  (sd_aret hC (Or.inl ⟨_, rfl⟩) dX6_laneFrom_31)
def B_WR_laneFrom_30 (mc ms : Nat) (Rt : Option zAV → zMp → Prop) (g : Nat → zKT) : zKT :=
  (i_nul (B_WR_laneFrom_31 mc ms Rt g))
set_option maxRecDepth 20000 in
theorem s_WR_laneFrom_30 {X : zMa} {mc ms : Nat} {Rt : Option zAV → zMp → Prop} (hC : zCx X RX6 cX6_laneFrom 1 21 mc ms (some (.object "WishRoutes$Lane")) false Rt) : zLe (B_WR_laneFrom_30 mc ms Rt (zG X)) (zG X 30) :=
  (sd_nul hC dX6_laneFrom_30 (s_WR_laneFrom_31 hC))
def B_WR_laneFrom_0 (mc ms : Nat) (Rt : Option zAV → zMp → Prop) (g : Nat → zKT) : zKT :=
  (i_al 0 (i_il 1 (i_callV mc ms 7 2 T_WR_isDesk co_WR_isDesk (i_ifeq (B_WR_laneFrom_30 mc ms Rt g) (i_al 0 (i_il 2 (i_callV mc ms 7 2 T_WR_isDesk co_WR_isDesk (i_ifeq (B_WR_laneFrom_30 mc ms Rt g) (i_al 0 (i_gf 7 4 (i_il 1 (i_ic 12 (i_imul (i_il 2 (i_iadd (i_aal "WishRoutes$Lane" (B_WR_laneFrom_31 mc ms Rt g)))))))))))))))))
set_option maxRecDepth 20000 in
theorem s_WR_laneFrom_0 {X : zMa} {mc ms : Nat} {Rt : Option zAV → zMp → Prop} (hC : zCx X RX6 cX6_laneFrom 1 21 mc ms (some (.object "WishRoutes$Lane")) false Rt) : zLe (B_WR_laneFrom_0 mc ms Rt (zG X)) (zG X 0) :=
  (sd_al_n hC rfl dX6_laneFrom_0 ((sd_il_n hC rfl dX6_laneFrom_1 ((sd_cV hC c_WR_isDesk yv_WR_isDesk (ci := 7) rfl rfl ml_WR_69 (by decide) (by decide) dX6_laneFrom_2 ((sd_ifeq hC (tgt := 30) (by decide) dX6_laneFrom_5 (s_WR_laneFrom_30 hC) ((sd_al_n hC rfl dX6_laneFrom_8 ((sd_il_n hC rfl dX6_laneFrom_9 ((sd_cV hC c_WR_isDesk yv_WR_isDesk (ci := 7) rfl rfl ml_WR_69 (by decide) (by decide) dX6_laneFrom_10 ((sd_ifeq hC (tgt := 30) (by decide) dX6_laneFrom_13 (s_WR_laneFrom_30 hC) ((sd_al_n hC rfl dX6_laneFrom_16 ((sd_gf hC (ci := 7) (fk := 4) rfl wi_WR (by decide) fl_WR_28 (Or.inl rfl) dX6_laneFrom_17 ((sd_il_n hC rfl dX6_laneFrom_20 ((sd_bipush hC (by decide) dX6_laneFrom_21 ((sd_imul hC dX6_laneFrom_23 ((sd_il_n hC rfl dX6_laneFrom_24 ((sd_iadd hC dX6_laneFrom_25 ((sd_aal hC dX6_laneFrom_26 ((sd_goto hC (tgt := 31) (by decide) dX6_laneFrom_27 (s_WR_laneFrom_31 hC))))))))))))))))))))))))))))))))))
theorem c_WR_laneFrom (l : Launch) : zCT l yX6_laneFrom cX6_laneFrom 3 (some (.object "WishRoutes$Lane")) 1 21 T_WR_laneFrom co_WR_laneFrom := by
  intro As M Rt hT
  obtain ⟨x, u, v, rfl, rfl, hd, hR⟩ := hT
  refine zMet_of false (by decide +kernel) (fun h => by first | rfl | cases h) (Nat.le_of_ble_eq_true rfl) (fun X hN hC => ?_)
  show zG X 0 [some (.inr (0, 0, 0)), some (.inl (.int u)), some (.inl (.int v))] [] (pic x) 0 0
  refine s_WR_laneFrom_0 hC _ _ _ _ _ ?_
  simp only [B_WR_laneFrom_0, B_WR_laneFrom_30, B_WR_laneFrom_31, co_WR_isDesk, co_WR_laneFrom, i_ic, i_lc, i_nul, i_il, i_ll, i_al, i_is, i_as, i_ls, i_inc, i_iadd, i_isub, i_imul, i_iand, i_ior, i_ixor, i_idiv, i_irem, i_ishl, i_ishr, i_ladd, i_lsub, i_land, i_lor, i_i2l, i_lushr, i_lshl, i_lshr, i_lcmp, i_dup, i_pop, i_dx1, i_dup2, i_ifeq, i_ifne, i_iflt, i_ifge, i_ifgt, i_ifle, i_iceq, i_icne, i_iclt, i_icge, i_icgt, i_icle, i_ifn, i_gf, i_pf, i_ial, i_bal, i_lal, i_aal, i_ias, i_las, i_bas, i_aas, i_alen, i_newa, i_new, i_anew, i_cast, i_oi, i_call, i_callV, i_callV2, i_callI, i_iret, i_zret, i_lret, i_vret, i_aret, i_mmx, i_mmn, i_gsE, i_aceq, i_no, i_acq, i_sw, zsw, zlg, zls, znl, zfg, zcs, zsp, zrc, zisn, zft, zc1, zto, Value.category, List.set_cons_zero, List.set_cons_succ, List.length_cons, List.length_nil, Option.toList, List.append, List.nil_append, List.cons_append, true_and, and_true, Nat.add_zero, Nat.zero_le, Nat.zero_add, Nat.le_refl, Nat.reduceAdd, Nat.reduceLeDiff, co0, z0, zn_0, zn_1, zn_2, zn_3, zn_4, zn_5, zn_8, zn_12, zn_24, zn_121, zn_144, zn_256, zn_300, zn_600, zn_720, zn_1204, zn_1280, zn_2400, zn_4816, zn_14400, zn_90000, p_main, x_main]
  refine ⟨x, u, rfl, rfl, fun h => ?_, fun h => ?_⟩
  · unfold lnF at hR
    rw [if_neg (fun q => by rw [q.1] at h; exact absurd h (by decide))] at hR
    exact hR
  · simp only [p_main, x_main, i_ic, i_lc, i_nul, i_il, i_ll, i_al, i_is, i_as, i_ls, i_inc, i_iadd, i_isub, i_imul, i_iand, i_ior, i_ixor, i_idiv, i_irem, i_ishl, i_ishr, i_ladd, i_lsub, i_land, i_lor, i_i2l, i_lushr, i_lshl, i_lshr, i_lcmp, i_dup, i_pop, i_dx1, i_dup2, i_ifeq, i_ifne, i_iflt, i_ifge, i_ifgt, i_ifle, i_iceq, i_icne, i_iclt, i_icge, i_icgt, i_icle, i_ifn, i_gf, i_pf, i_ial, i_bal, i_lal, i_aal, i_ias, i_las, i_bas, i_aas, i_alen, i_newa, i_new, i_anew, i_cast, i_oi, i_call, i_callV, i_callV2, i_callI, i_iret, i_zret, i_lret, i_vret, i_aret, i_mmx, i_mmn, i_gsE, i_aceq, i_no, i_acq, i_sw, zsw, zlg, zls, znl, zfg, zcs, zsp, zrc, zisn, zft, zc1, zto, Value.category, List.set_cons_zero, List.set_cons_succ, List.length_cons, List.length_nil, Option.toList, List.append, List.nil_append, List.cons_append, true_and, and_true, Nat.add_zero, Nat.zero_le, Nat.zero_add, Nat.le_refl, Nat.reduceAdd, Nat.reduceLeDiff, co0, z0, zn_0, zn_1, zn_2, zn_3, zn_4, zn_5, zn_8, zn_12, zn_24, zn_121, zn_144, zn_256, zn_300, zn_600, zn_720, zn_1204, zn_1280, zn_2400, zn_4816, zn_14400, zn_90000]
    refine ⟨x, v, rfl, rfl, fun h' => ?_, fun h' => ?_⟩
    · unfold lnF at hR
      rw [if_neg (fun q => by rw [q.2] at h'; exact absurd h' (by decide))] at hR
      exact hR
    · have hu : isn (x_dk x) u = true := by
        cases hb : isn (x_dk x) u with
        | true => rfl
        | false => exact absurd (zb_0.mpr hb) h
      have hv : isn (x_dk x) v = true := by
        cases hb : isn (x_dk x) v with
        | true => rfl
        | false => exact absurd (zb_0.mpr hb) h'
      obtain ⟨a, ha, rfl⟩ := isn_t (by omega) hu
      obtain ⟨b, hb, rfl⟩ := isn_t (by omega) hv
      rw [lnF_n hd ha hb] at hR
      simp only [p_main, x_main, p_ln, i_ic, i_lc, i_nul, i_il, i_ll, i_al, i_is, i_as, i_ls, i_inc, i_iadd, i_isub, i_imul, i_iand, i_ior, i_ixor, i_idiv, i_irem, i_ishl, i_ishr, i_ladd, i_lsub, i_land, i_lor, i_i2l, i_lushr, i_lshl, i_lshr, i_lcmp, i_dup, i_pop, i_dx1, i_dup2, i_ifeq, i_ifne, i_iflt, i_ifge, i_ifgt, i_ifle, i_iceq, i_icne, i_iclt, i_icge, i_icgt, i_icle, i_ifn, i_gf, i_pf, i_ial, i_bal, i_lal, i_aal, i_ias, i_las, i_bas, i_aas, i_alen, i_newa, i_new, i_anew, i_cast, i_oi, i_call, i_callV, i_callV2, i_callI, i_iret, i_zret, i_lret, i_vret, i_aret, i_mmx, i_mmn, i_gsE, i_aceq, i_no, i_acq, i_sw, zsw, zlg, zls, znl, zfg, zcs, zsp, zrc, zisn, zft, zc1, zto, Value.category, List.set_cons_zero, List.set_cons_succ, List.length_cons, List.length_nil, Option.toList, List.append, List.nil_append, List.cons_append, true_and, and_true, Nat.add_zero, Nat.zero_le, Nat.zero_add, Nat.le_refl, Nat.reduceAdd, Nat.reduceLeDiff, co0, z0, zn_0, zn_1, zn_2, zn_3, zn_4, zn_5, zn_8, zn_12, zn_24, zn_121, zn_144, zn_256, zn_300, zn_600, zn_720, zn_1204, zn_1280, zn_2400, zn_4816, zn_14400, zn_90000]
      have e : nI a * 12 + nI b = nI (12 * a + b) := by
        rw [show (12 : Int32) = nI 12 from rfl, pk_mul, nI_add]
        congr 1
        omega
      rw [e, nI_clamp (by omega)]
      refine ⟨vp_in_nI (by omega) (by decide), ?_⟩
      cases hl : x_ln x (12 * a + b) with
      | none => rw [hl] at hR; simp only [zln, Option.map_none, zov] at hR ⊢; exact hR
      | some y => rw [hl] at hR; simp only [zln, Option.map_some, zov] at hR ⊢; exact hR
