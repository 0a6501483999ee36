/-! WishRoutes: reader -/
/-- between calls nothing is made that is not yet in a list -/
def Iq (x : zSt) : Prop := Iv x ∧ x_or x = x_nr x ∧ x_ow x = x_nw x ∧ x_on x = x_nn x ∧ x_rg x = x_nw x ∧ x_ng x = x_nw x + 1
theorem pool {c c' : Nat} {F F' : Nat → zAE} (hc : c' = c + 1) (hF : ∀ i, i < c → F' i = F i) {i j : Nat} (h : ¬ (i = c ∧ j = 0)) : (if i < c ∧ j = 0 then some (F i) else none) = (if i < c' ∧ j = 0 then some (F' i) else none) := by
  subst hc
  by_cases hj : j = 0
  · by_cases hi : i < c
    · rw [if_pos ⟨hi, hj⟩, if_pos ⟨by omega, hj⟩, hF i hi]
    · rw [if_neg (fun q => hi q.1), if_neg (fun q => h ⟨by omega, hj⟩)]
  · rw [if_neg (fun q => hj q.2), if_neg (fun q => hj q.2)]
theorem va_upn {α : Type} {f : Nat → α} {a i : Nat} {v : α} (h : i ≠ a) : va_up f a v i = f i := if_neg h
theorem va_ups {α : Type} {f : Nat → α} {a : Nat} {v : α} : va_up f a v a = v := if_pos rfl
theorem el_up (K n : Nat) : (fun k => if k < n + 1 then some ((K, k, 0) : zNm) else none) = va_up (fun k => if k < n then some (K, k, 0) else none) n (some (K, n, 0)) := by
  funext k
  simp only [va_up]
  by_cases h : k = n
  · rw [if_pos h, if_pos (by omega), h]
  · rw [if_neg h]
    by_cases h2 : k < n
    · rw [if_pos h2, if_pos (by omega)]
    · rw [if_neg h2, if_neg (by omega)]
theorem el_ok0 {y : zSt} (h : Iv y) : ∀ k, k < x_sz y 0 → ∀ e, x_el y 0 k = some e → zok (pic y) sOb (.inr e) := by
  intro k hk e he
  have hk : k < x_nr y := hk
  have he : (if k < x_nr y then some (10, k, 0) else none) = some e := he
  rw [if_pos hk] at he
  cases he
  simp only [zok, p_rdr (Nat.lt_of_lt_of_le hk h.cnt.1), x_rdr]
  exact zk_Rdr_Obj
theorem el_ok1 {y : zSt} (h : Iv y) : ∀ k, k < x_sz y 1 → ∀ e, x_el y 1 k = some e → zok (pic y) sOb (.inr e) := by
  intro k hk e he
  have hk : k < x_nw y := hk
  have he : (if k < x_nw y then some (15, k, 0) else none) = some e := he
  rw [if_pos hk] at he
  cases he
  simp only [zok, p_wsh (Nat.lt_of_lt_of_le hk h.cnt.2.1), x_wsh]
  exact zk_Wsh_Obj
theorem el_ok2 {y : zSt} (h : Iv y) : ∀ k, k < x_sz y 2 → ∀ e, x_el y 2 k = some e → zok (pic y) sOb (.inr e) := by
  intro k hk e he
  have hk : k < x_nn y := hk
  have he : (if k < x_nn y then some (12, k, 0) else none) = some e := he
  rw [if_pos hk] at he
  cases he
  simp only [zok, p_ntc (Nat.lt_of_lt_of_le hk h.cnt.2.2), x_ntc]
  exact zk_Not_Obj
theorem el_ok3 {y : zSt} (h : Iv y) : ∀ k, k < x_sz y 3 → ∀ e, x_el y 3 k = some e → zok (pic y) sOb (.inr e) := by
  intro k hk e he
  have hk : k < x_ns y := hk
  have he : (if k < x_ns y then some (16, x_sp y k, 0) else none) = some e := he
  rw [if_pos hk] at he
  cases he
  simp only [zok, p_lane (h.sp k hk), x_lane]
  exact zk_Lane_Obj
/-- a reader more -/
def nw_rd (x : zSt) (d : Int32) : zSt := u_rh (u_rz (u_rd (u_or x (x_or x + 1)) (va_up (x_rd x) (x_or x) d)) (va_up (x_rz x) (x_or x) 0)) (va_up (x_rh x) (x_or x) (fun _ => 0))
theorem pu_nrd (x : zSt) (d : Int32) (e0 : zAE) : zup (zup (zup (pic x) (10, x_or x, 0) e0) (11, x_or x, 0) (zin 600 (fun _ => 0))) (10, x_or x, 0) (.inr (4, [.inl (.int d), .inr (11, x_or x, 0), .inl (.int 0)])) = pic (nw_rd x d) := by
  have c1 : x_or (nw_rd x d) = x_or x + 1 := rfl
  have c2 : x_rd (nw_rd x d) = va_up (x_rd x) (x_or x) d := rfl
  have c3 : x_rz (nw_rd x d) = va_up (x_rz x) (x_or x) 0 := rfl
  have c4 : x_rh (nw_rd x d) = va_up (x_rh x) (x_or x) (fun _ => 0) := rfl
  funext n
  obtain ⟨k, i, j⟩ := n
  by_cases h10 : (k, i, j) = (10, x_or x, 0)
  · rw [h10, zup_s, p_rdr (by rw [c1]; omega), x_rdr, c2, c3, va_ups, va_ups]
    rfl
  · rw [zup_o h10]
    by_cases h11 : (k, i, j) = (11, x_or x, 0)
    · rw [h11, zup_s, p_rh (by rw [c1]; omega), c4, va_ups]
    · rw [zup_o h11, zup_o h10]
      rcases k with _ | _ | _ | _ | _ | _ | _ | _ | _ | _ | _ | _ | _ | _ | _ | _ | _ | _ | _ | k
      all_goals first | rfl | skip
      · refine pool (F := x_rdr x) (F' := x_rdr (nw_rd x d)) c1 (fun i hi => ?_) (fun q => h10 (by rw [q.1, q.2]))
        simp only [x_rdr, c2, c3, va_upn (Nat.ne_of_lt hi)]
      · refine pool (F := fun i => zin 600 (x_rh x i)) (F' := fun i => zin 600 (x_rh (nw_rd x d) i)) c1 (fun i hi => ?_) (fun q => h11 (by rw [q.1, q.2]))
        simp only [c4, va_upn (Nat.ne_of_lt hi)]
def rdr_x (x : zSt) (d : Int32) : zSt := u_nr (ls (nw_rd x d) 0) (x_nr x + 1)
theorem ls_rdr {x : zSt} {d : Int32} (h : x_or x = x_nr x) : ls_r (nw_rd x d) (rdr_x x d) 0 (10, x_nr x, 0) := by
  refine ⟨rfl, rfl, rfl, fun j hj => ?_, fun j hj => ?_, fun k a b h1 h2 => ?_⟩
  · match j, hj with
    | 0, _ => rfl
    | 1, _ => rfl
    | 2, _ => rfl
    | 3, _ => rfl
  · match j, hj with
    | 0, _ => exact el_up 10 (x_nr x)
    | 1, _ => rfl
    | 2, _ => rfl
    | 3, _ => rfl
  · rcases k with _ | _ | _ | _ | _ | _ | _ | _ | _ | _ | _ | _ | _ | _ | _ | _ | _ | _ | _ | k
    all_goals first | rfl | exact absurd rfl h1 | exact absurd rfl h2
theorem Iv_nrd {x : zSt} {d : Nat} (h : Iv x) (hd : d < x_dk x) : Iv (nw_rd x (nI d)) := by
  obtain ⟨h1, h2, h3, h4, h5, h6, h7, h8, h9, h10, h11⟩ := h
  refine ⟨h1, ⟨Nat.le_succ_of_le h2.1, h2.2⟩, h3, h4, h5, fun i hi => ?_, fun w hw => ⟨Nat.lt_succ_of_lt (h7 w hw).1, (h7 w hw).2⟩, h8, h9, h10, h11⟩
  have hi : i < x_or x + 1 := hi
  have c2 : x_rd (nw_rd x (nI d)) = va_up (x_rd x) (x_or x) (nI d) := rfl
  have c3 : x_rz (nw_rd x (nI d)) = va_up (x_rz x) (x_or x) 0 := rfl
  rw [c2, c3]
  by_cases hi2 : i = x_or x
  · subst hi2
    rw [va_ups, va_ups]
    exact ⟨by decide, d, hd, rfl⟩
  · rw [va_upn hi2, va_upn hi2]
    exact h6 i (by omega)
theorem Iq_rdr {x : zSt} {d : Nat} (h : Iq x) (hd : d < x_dk x) (hn : x_nr x < 24) : Iq (rdr_x x (nI d)) := by
  obtain ⟨hv, hq⟩ := h
  have h1 := Iv_nrd hv hd
  have hS := ls_rdr (d := nI d) hq.1
  have hc := ls_cap (x := nw_rd x (nI d)) (i := 0) (by decide) (show x_nr x ≤ 600 by omega) hS h1.cap h1.gb
  obtain ⟨g1, g2, g3, g4, g5, g6, g7, g8, g9, g10, g11⟩ := h1
  refine ⟨⟨g1, ⟨?_, g2.2⟩, ⟨?_, g3.2⟩, hc.1, hc.2, g6, g7, g8, g9, g10, g11⟩, ?_, hq.2⟩
  · show x_nr x + 1 ≤ x_or x + 1
    omega
  · show x_nr x + 1 ≤ 24
    omega
  · show x_or x + 1 = x_nr x + 1
    omega
theorem nI_pm (n : Nat) : nI (n + 1) - 1 = nI n := nI_pred n
def T_WR_reader (As : List zAV) (M : zMp) (Rt : Option zAV → zMp → Prop) : Prop := ∃ x d, As = [.inr (0, 0, 0), .inl (.int d)] ∧ M = pic x ∧ Iq x ∧ (isn (x_dk x) d = false → Rt (some (.inl (.int (-2)))) M) ∧ (isn (x_dk x) d = true → 24 ≤ x_nr x → Rt (some (.inl (.int (-8)))) M) ∧ (isn (x_dk x) d = true → x_nr x < 24 → Rt (some (.inl (.int (nI (x_nr x))))) (pic (rdr_x x d)))
def co_WR_reader : List zAV → zMp → Nat × Nat := fun _ _ => (3, 1603)
theorem dX6_reader_0 : decode cX6_reader 0 = .ok (.aload_n 0, 1) := by decide +kernel
theorem dX6_reader_1 : decode cX6_reader 1 = .ok (.iload_n 1, 1) := by decide +kernel
theorem dX6_reader_2 : decode cX6_reader 2 = .ok (.invokevirtual 69, 3) := by decide +kernel
theorem dX6_reader_5 : decode cX6_reader 5 = .ok (.ifCond .ne 6, 3) := by decide +kernel
theorem dX6_reader_8 : decode cX6_reader 8 = .ok (.bipush (-2), 2) := by decide +kernel
theorem dX6_reader_10 : decode cX6_reader 10 = .ok (.ireturn, 1) := by decide +kernel
theorem dX6_reader_11 : decode cX6_reader 11 = .ok (.aload_n 0, 1) := by decide +kernel
theorem dX6_reader_12 : decode cX6_reader 12 = .ok (.getfield 12, 3) := by decide +kernel
theorem dX6_reader_15 : decode cX6_reader 15 = .ok (.invokevirtual 96, 3) := by decide +kernel
theorem dX6_reader_18 : decode cX6_reader 18 = .ok (.bipush 24, 2) := by decide +kernel
theorem dX6_reader_20 : decode cX6_reader 20 = .ok (.if_icmp .lt 6, 3) := by decide +kernel
theorem dX6_reader_23 : decode cX6_reader 23 = .ok (.bipush (-8), 2) := by decide +kernel
theorem dX6_reader_25 : decode cX6_reader 25 = .ok (.ireturn, 1) := by decide +kernel
theorem dX6_reader_26 : decode cX6_reader 26 = .ok (.aload_n 0, 1) := by decide +kernel
theorem dX6_reader_27 : decode cX6_reader 27 = .ok (.getfield 12, 3) := by decide +kernel
theorem dX6_reader_30 : decode cX6_reader 30 = .ok (.new 100, 3) := by decide +kernel
theorem dX6_reader_33 : decode cX6_reader 33 = .ok (.dup, 1) := by decide +kernel
theorem dX6_reader_34 : decode cX6_reader 34 = .ok (.iload_n 1, 1) := by decide +kernel
theorem dX6_reader_35 : decode cX6_reader 35 = .ok (.invokespecial 102, 3) := by decide +kernel
theorem dX6_reader_38 : decode cX6_reader 38 = .ok (.invokevirtual 104, 3) := by decide +kernel
theorem dX6_reader_41 : decode cX6_reader 41 = .ok (.pop, 1) := by decide +kernel
theorem dX6_reader_42 : decode cX6_reader 42 = .ok (.aload_n 0, 1) := by decide +kernel
theorem dX6_reader_43 : decode cX6_reader 43 = .ok (.getfield 12, 3) := by decide +kernel
theorem dX6_reader_46 : decode cX6_reader 46 = .ok (.invokevirtual 96, 3) := by decide +kernel
theorem dX6_reader_49 : decode cX6_reader 49 = .ok (.iconst 1, 1) := by decide +kernel
theorem dX6_reader_50 : decode cX6_reader 50 = .ok (.isub, 1) := by decide +kernel
theorem dX6_reader_51 : decode cX6_reader 51 = .ok (.ireturn, 1) := by decide +kernel
def B_WR_reader_26 (mc ms : Nat) (Rt : Option zAV → zMp → Prop) (g : Nat → zKT) : zKT :=
  (i_al 0 (i_gf 7 0 (i_new mc ms 4 3 [.inl (.int 0), .inl .null, .inl (.int 0)] (i_dup (i_il 1 (i_callI mc ms 2 T_Rdr_init co_Rdr_init (i_callV mc ms 0 2 T_AL_add2 co_AL_add2 (i_pop (i_al 0 (i_gf 7 0 (i_callV mc ms 0 1 T_AL_size co_AL_size (i_ic 1 (i_isub (i_iret mc ms Rt))))))))))))))
set_option maxRecDepth 20000 in
theorem s_WR_reader_26 {X : zMa} {mc ms : Nat} {Rt : Option zAV → zMp → Prop} (hC : zCx X RX6 cX6_reader 7 171 mc ms (some .int) false Rt) : zLe (B_WR_reader_26 mc ms Rt (zG X)) (zG X 26) :=
  (sd_al_n hC rfl dX6_reader_26 ((sd_gf hC (ci := 7) (fk := 0) rfl wi_WR (by decide) fl_WR_12 (Or.inl rfl) dX6_reader_27 ((sd_new hC (ci := 4) rfl wi_Rdr tyX3 tyX3_ok cl_WR_100 in_Rdr iz_Rdr (by decide) (by intro n h; simp at h) dX6_reader_30 ((sd_dup hC dX6_reader_33 ((sd_il_n hC rfl dX6_reader_34 ((sd_cI hC c_Rdr_init yi_Rdr_init ml_WR_102 (by decide) (by decide) dX6_reader_35 ((sd_cV hC c_AL_add2 yv_AL_add2 (ci := 0) rfl rfl ml_WR_104 (by decide) (by decide) dX6_reader_38 ((sd_pop hC dX6_reader_41 ((sd_al_n hC rfl dX6_reader_42 ((sd_gf hC (ci := 7) (fk := 0) rfl wi_WR (by decide) fl_WR_12 (Or.inl rfl) dX6_reader_43 ((sd_cV hC c_AL_size yv_AL_size (ci := 0) rfl rfl ml_WR_96 (by decide) (by decide) dX6_reader_46 ((sd_iconst hC (by decide) dX6_reader_49 ((sd_isub hC dX6_reader_50 ((sd_iret hC dX6_reader_51)))))))))))))))))))))))))))
def B_WR_reader_11 (mc ms : Nat) (Rt : Option zAV → zMp → Prop) (g : Nat → zKT) : zKT :=
  (i_al 0 (i_gf 7 0 (i_callV mc ms 0 1 T_AL_size co_AL_size (i_ic 24 (i_iclt (B_WR_reader_26 mc ms Rt g) (i_ic (-8) (i_iret mc ms Rt)))))))
set_option maxRecDepth 20000 in
theorem s_WR_reader_11 {X : zMa} {mc ms : Nat} {Rt : Option zAV → zMp → Prop} (hC : zCx X RX6 cX6_reader 7 171 mc ms (some .int) false Rt) : zLe (B_WR_reader_11 mc ms Rt (zG X)) (zG X 11) :=
  (sd_al_n hC rfl dX6_reader_11 ((sd_gf hC (ci := 7) (fk := 0) rfl wi_WR (by decide) fl_WR_12 (Or.inl rfl) dX6_reader_12 ((sd_cV hC c_AL_size yv_AL_size (ci := 0) rfl rfl ml_WR_96 (by decide) (by decide) dX6_reader_15 ((sd_bipush hC (by decide) dX6_reader_18 ((sd_iclt hC (tgt := 26) (by decide) dX6_reader_20 (s_WR_reader_26 hC) ((sd_bipush hC (by decide) dX6_reader_23 ((sd_iret hC dX6_reader_25)))))))))))))
def B_WR_reader_0 (mc ms : Nat) (Rt : Option zAV → zMp → Prop) (g : Nat → zKT) : zKT :=
  (i_al 0 (i_il 1 (i_callV mc ms 7 2 T_WR_isDesk co_WR_isDesk (i_ifne (B_WR_reader_11 mc ms Rt g) (i_ic (-2) (i_iret mc ms Rt))))))
set_option maxRecDepth 20000 in
theorem s_WR_reader_0 {X : zMa} {mc ms : Nat} {Rt : Option zAV → zMp → Prop} (hC : zCx X RX6 cX6_reader 7 171 mc ms (some .int) false Rt) : zLe (B_WR_reader_0 mc ms Rt (zG X)) (zG X 0) :=
  (sd_al_n hC rfl dX6_reader_0 ((sd_il_n hC rfl dX6_reader_1 ((sd_cV hC c_WR_isDesk yv_WR_isDesk (ci := 7) rfl rfl ml_WR_69 (by decide) (by decide) dX6_reader_2 ((sd_ifne hC (tgt := 11) (by decide) dX6_reader_5 (s_WR_reader_11 hC) ((sd_bipush hC (by decide) dX6_reader_8 ((sd_iret hC dX6_reader_10)))))))))))
theorem c_WR_reader (l : Launch) : zCT l yX6_reader cX6_reader 2 (some .int) 7 171 T_WR_reader co_WR_reader := by
  intro As M Rt hT
  obtain ⟨x, d, rfl, rfl, hq, hR0, hR1, hR2⟩ := hT
  have hI := hq.1
  refine zMet_of false (by decide +kernel) (fun h => by first | rfl | cases h) (Nat.le_of_ble_eq_true rfl) (fun X hN hC => ?_)
  show zG X 0 [some (.inr (0, 0, 0)), some (.inl (.int d))] [] (pic x) 0 0
  refine s_WR_reader_0 hC _ _ _ _ _ ?_
  simp only [B_WR_reader_0, B_WR_reader_11, B_WR_reader_26, co_AL_add2, co_AL_size, co_Rdr_init, co_WR_isDesk, co_WR_reader, i_ic, i_lc, i_nul, i_il, i_ll, i_al, i_is, i_as, i_ls, i_inc, i_iadd, i_isub, i_imul, i_iand, i_ior, i_ixor, i_idiv, i_irem, i_ishl, i_ishr, i_ladd, i_lsub, i_land, i_lor, i_i2l, i_lushr, i_lshl, i_lshr, i_lcmp, i_dup, i_pop, i_dx1, i_dup2, i_ifeq, i_ifne, i_iflt, i_ifge, i_ifgt, i_ifle, i_iceq, i_icne, i_iclt, i_icge, i_icgt, i_icle, i_ifn, i_gf, i_pf, i_ial, i_bal, i_lal, i_aal, i_ias, i_las, i_bas, i_aas, i_alen, i_newa, i_new, i_anew, i_cast, i_oi, i_call, i_callV, i_callV2, i_callI, i_iret, i_zret, i_lret, i_vret, i_aret, i_mmx, i_mmn, i_gsE, i_aceq, i_no, i_acq, i_sw, zsw, zlg, zls, znl, zfg, zcs, zsp, zrc, zisn, zft, zc1, zto, Value.category, List.set_cons_zero, List.set_cons_succ, List.length_cons, List.length_nil, Option.toList, List.append, List.nil_append, List.cons_append, true_and, and_true, Nat.add_zero, Nat.zero_le, Nat.zero_add, Nat.le_refl, Nat.reduceAdd, Nat.reduceLeDiff, co0, z0, zn_0, zn_1, zn_2, zn_3, zn_4, zn_5, zn_8, zn_12, zn_24, zn_121, zn_144, zn_256, zn_300, zn_600, zn_720, zn_1204, zn_1280, zn_2400, zn_4816, zn_14400, zn_90000, p_main, x_main]
  refine ⟨x, d, rfl, rfl, fun h => ?_, fun h => hR0 (zb_0.mp h)⟩
  have hd := zb_n0 h
  simp only [p_main, x_main, p_list (i := 0) (by decide), i_ic, i_lc, i_nul, i_il, i_ll, i_al, i_is, i_as, i_ls, i_inc, i_iadd, i_isub, i_imul, i_iand, i_ior, i_ixor, i_idiv, i_irem, i_ishl, i_ishr, i_ladd, i_lsub, i_land, i_lor, i_i2l, i_lushr, i_lshl, i_lshr, i_lcmp, i_dup, i_pop, i_dx1, i_dup2, i_ifeq, i_ifne, i_iflt, i_ifge, i_ifgt, i_ifle, i_iceq, i_icne, i_iclt, i_icge, i_icgt, i_icle, i_ifn, i_gf, i_pf, i_ial, i_bal, i_lal, i_aal, i_ias, i_las, i_bas, i_aas, i_alen, i_newa, i_new, i_anew, i_cast, i_oi, i_call, i_callV, i_callV2, i_callI, i_iret, i_zret, i_lret, i_vret, i_aret, i_mmx, i_mmn, i_gsE, i_aceq, i_no, i_acq, i_sw, zsw, zlg, zls, znl, zfg, zcs, zsp, zrc, zisn, zft, zc1, zto, Value.category, List.set_cons_zero, List.set_cons_succ, List.length_cons, List.length_nil, Option.toList, List.append, List.nil_append, List.cons_append, true_and, and_true, Nat.add_zero, Nat.zero_le, Nat.zero_add, Nat.le_refl, Nat.reduceAdd, Nat.reduceLeDiff, co0, z0, zn_0, zn_1, zn_2, zn_3, zn_4, zn_5, zn_8, zn_12, zn_24, zn_121, zn_144, zn_256, zn_300, zn_600, zn_720, zn_1204, zn_1280, zn_2400, zn_4816, zn_14400, zn_90000]
  refine ⟨(1, 0, 0), _, _, _, rfl, p_list (by decide), ?_⟩
  have hsz : x_sz x 0 = x_nr x := rfl
  rw [hsz]
  have hK := (zK (K := 24) (by decide) (n := x_nr x) (by have := hI.lim; omega)).1
  refine ⟨fun hlt => ?_, fun hlt => hR1 hd (by have : ¬ x_nr x < 24 := fun z => hlt (hK.mpr z); omega)⟩
  have hn : x_nr x < 24 := hK.mp hlt
  have hR := hR2 hd hn
  obtain ⟨dd, hdd, rfl⟩ := isn_t (by have := hI.dk; omega) hd
  have fr : pic x (10, x_or x, 0) = none := if_neg (fun q => absurd q.1 (Nat.lt_irrefl _))
  have fr2 : pic x (11, x_or x, 0) = none := if_neg (fun q => absurd q.1 (Nat.lt_irrefl _))
  simp only [p_main, x_main, p_list (i := 0) (by decide), i_ic, i_lc, i_nul, i_il, i_ll, i_al, i_is, i_as, i_ls, i_inc, i_iadd, i_isub, i_imul, i_iand, i_ior, i_ixor, i_idiv, i_irem, i_ishl, i_ishr, i_ladd, i_lsub, i_land, i_lor, i_i2l, i_lushr, i_lshl, i_lshr, i_lcmp, i_dup, i_pop, i_dx1, i_dup2, i_ifeq, i_ifne, i_iflt, i_ifge, i_ifgt, i_ifle, i_iceq, i_icne, i_iclt, i_icge, i_icgt, i_icle, i_ifn, i_gf, i_pf, i_ial, i_bal, i_lal, i_aal, i_ias, i_las, i_bas, i_aas, i_alen, i_newa, i_new, i_anew, i_cast, i_oi, i_call, i_callV, i_callV2, i_callI, i_iret, i_zret, i_lret, i_vret, i_aret, i_mmx, i_mmn, i_gsE, i_aceq, i_no, i_acq, i_sw, zsw, zlg, zls, znl, zfg, zcs, zsp, zrc, zisn, zft, zc1, zto, Value.category, List.set_cons_zero, List.set_cons_succ, List.length_cons, List.length_nil, Option.toList, List.append, List.nil_append, List.cons_append, true_and, and_true, Nat.add_zero, Nat.zero_le, Nat.zero_add, Nat.le_refl, Nat.reduceAdd, Nat.reduceLeDiff, co0, z0, zn_0, zn_1, zn_2, zn_3, zn_4, zn_5, zn_8, zn_12, zn_24, zn_121, zn_144, zn_256, zn_300, zn_600, zn_720, zn_1204, zn_1280, zn_2400, zn_4816, zn_14400, zn_90000]
  refine ⟨(10, x_or x, 0), fr, m_k (by decide), (10, x_or x, 0), (11, x_or x, 0), nI dd, rfl, zup_s, m_k (by decide), by rw [zup_o (nm_ne (by omega))]; exact fr2, m_k (by decide), ?_⟩
  rw [pu_nrd]
  have h1 := Iv_nrd hI hdd
  simp only [p_list (i := 0) (by decide), i_ic, i_lc, i_nul, i_il, i_ll, i_al, i_is, i_as, i_ls, i_inc, i_iadd, i_isub, i_imul, i_iand, i_ior, i_ixor, i_idiv, i_irem, i_ishl, i_ishr, i_ladd, i_lsub, i_land, i_lor, i_i2l, i_lushr, i_lshl, i_lshr, i_lcmp, i_dup, i_pop, i_dx1, i_dup2, i_ifeq, i_ifne, i_iflt, i_ifge, i_ifgt, i_ifle, i_iceq, i_icne, i_iclt, i_icge, i_icgt, i_icle, i_ifn, i_gf, i_pf, i_ial, i_bal, i_lal, i_aal, i_ias, i_las, i_bas, i_aas, i_alen, i_newa, i_new, i_anew, i_cast, i_oi, i_call, i_callV, i_callV2, i_callI, i_iret, i_zret, i_lret, i_vret, i_aret, i_mmx, i_mmn, i_gsE, i_aceq, i_no, i_acq, i_sw, zsw, zlg, zls, znl, zfg, zcs, zsp, zrc, zisn, zft, zc1, zto, Value.category, List.set_cons_zero, List.set_cons_succ, List.length_cons, List.length_nil, Option.toList, List.append, List.nil_append, List.cons_append, true_and, and_true, Nat.add_zero, Nat.zero_le, Nat.zero_add, Nat.le_refl, Nat.reduceAdd, Nat.reduceLeDiff, co0, z0, zn_0, zn_1, zn_2, zn_3, zn_4, zn_5, zn_8, zn_12, zn_24, zn_121, zn_144, zn_256, zn_300, zn_600, zn_720, zn_1204, zn_1280, zn_2400, zn_4816, zn_14400, zn_90000]
  have ho : x_or x < x_or (nw_rd x (nI dd)) := Nat.lt_succ_self _
  refine ls_T (x' := rdr_x x (nI dd)) (by decide) (h1.cap 0 (by decide)) (show x_nr x ≤ 600 by omega) (h1.gb 0) ?_ (nm_ne (by omega)) (el_ok0 h1) (by rw [hq.2.1]; exact ls_rdr hq.2.1) ?_
  · simp only [zok, p_rdr ho, x_rdr]
    exact zk_Rdr_Obj
  · simp only [p_main, x_main, p_list (i := 0) (by decide), i_ic, i_lc, i_nul, i_il, i_ll, i_al, i_is, i_as, i_ls, i_inc, i_iadd, i_isub, i_imul, i_iand, i_ior, i_ixor, i_idiv, i_irem, i_ishl, i_ishr, i_ladd, i_lsub, i_land, i_lor, i_i2l, i_lushr, i_lshl, i_lshr, i_lcmp, i_dup, i_pop, i_dx1, i_dup2, i_ifeq, i_ifne, i_iflt, i_ifge, i_ifgt, i_ifle, i_iceq, i_icne, i_iclt, i_icge, i_icgt, i_icle, i_ifn, i_gf, i_pf, i_ial, i_bal, i_lal, i_aal, i_ias, i_las, i_bas, i_aas, i_alen, i_newa, i_new, i_anew, i_cast, i_oi, i_call, i_callV, i_callV2, i_callI, i_iret, i_zret, i_lret, i_vret, i_aret, i_mmx, i_mmn, i_gsE, i_aceq, i_no, i_acq, i_sw, zsw, zlg, zls, znl, zfg, zcs, zsp, zrc, zisn, zft, zc1, zto, Value.category, List.set_cons_zero, List.set_cons_succ, List.length_cons, List.length_nil, Option.toList, List.append, List.nil_append, List.cons_append, true_and, and_true, Nat.add_zero, Nat.zero_le, Nat.zero_add, Nat.le_refl, Nat.reduceAdd, Nat.reduceLeDiff, co0, z0, zn_0, zn_1, zn_2, zn_3, zn_4, zn_5, zn_8, zn_12, zn_24, zn_121, zn_144, zn_256, zn_300, zn_600, zn_720, zn_1204, zn_1280, zn_2400, zn_4816, zn_14400, zn_90000]
    refine ⟨(1, 0, 0), _, _, _, rfl, p_list (by decide), ?_⟩
    have hs2 : x_sz (rdr_x x (nI dd)) 0 = x_nr x + 1 := rfl
    rw [hs2]
    simp only [i_ic, i_lc, i_nul, i_il, i_ll, i_al, i_is, i_as, i_ls, i_inc, i_iadd, i_isub, i_imul, i_iand, i_ior, i_ixor, i_idiv, i_irem, i_ishl, i_ishr, i_ladd, i_lsub, i_land, i_lor, i_i2l, i_lushr, i_lshl, i_lshr, i_lcmp, i_dup, i_pop, i_dx1, i_dup2, i_ifeq, i_ifne, i_iflt, i_ifge, i_ifgt, i_ifle, i_iceq, i_icne, i_iclt, i_icge, i_icgt, i_icle, i_ifn, i_gf, i_pf, i_ial, i_bal, i_lal, i_aal, i_ias, i_las, i_bas, i_aas, i_alen, i_newa, i_new, i_anew, i_cast, i_oi, i_call, i_callV, i_callV2, i_callI, i_iret, i_zret, i_lret, i_vret, i_aret, i_mmx, i_mmn, i_gsE, i_aceq, i_no, i_acq, i_sw, zsw, zlg, zls, znl, zfg, zcs, zsp, zrc, zisn, zft, zc1, zto, Value.category, List.set_cons_zero, List.set_cons_succ, List.length_cons, List.length_nil, Option.toList, List.append, List.nil_append, List.cons_append, true_and, and_true, Nat.add_zero, Nat.zero_le, Nat.zero_add, Nat.le_refl, Nat.reduceAdd, Nat.reduceLeDiff, co0, z0, zn_0, zn_1, zn_2, zn_3, zn_4, zn_5, zn_8, zn_12, zn_24, zn_121, zn_144, zn_256, zn_300, zn_600, zn_720, zn_1204, zn_1280, zn_2400, zn_4816, zn_14400, zn_90000]
    rw [nI_pm]
    exact hR
