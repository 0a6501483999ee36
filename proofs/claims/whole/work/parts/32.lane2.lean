/-! lanes, second half -/
theorem ok_push {x : zSt} {l : Nat} {v : Int32} (h : ln_ok x l) (hz : x_lz x l < 121) : ln_ok (la_push x l v) l := by
  refine ⟨h.1, ?_, h.2.2⟩
  show va_up (x_lz x) l (x_lz x l + 1) l ≤ 121
  simp only [va_up, if_true]
  omega
theorem lz_push (x : zSt) (l : Nat) (v : Int32) : x_lz (la_push x l v) l = x_lz x l + 1 := by
  show va_up (x_lz x) l (x_lz x l + 1) l = _
  simp [va_up]
theorem lf_mk (x : zSt) (l s : Nat) : x_lf (la_mk x l s) = x_lf x := by unfold la_mk; split <;> rfl
theorem lz_mk (x : zSt) (l s : Nat) : x_lz (la_mk x l s) = x_lz x := by unfold la_mk; split <;> rfl
theorem nl_mk (x : zSt) (l s : Nat) : x_nl (la_mk x l s) = x_nl x := by unfold la_mk; split <;> rfl
theorem me_mk (x : zSt) (l s : Nat) : x_me (la_mk x l s) = x_me x := by unfold la_mk; split <;> rfl
theorem lt_mk (x : zSt) (l s : Nat) : x_lt (la_mk x l s) = x_lt x := by unfold la_mk; split <;> rfl
theorem lb_mk (x : zSt) (l s : Nat) : x_lb (la_mk x l s) = x_lb x := by unfold la_mk; split <;> rfl
theorem li_mk (x : zSt) (l s : Nat) : x_li (la_mk x l s) = x_li x := by unfold la_mk; split <;> rfl
/-- the words of the row at a slot (none: zeros) -/
def la_row (x : zSt) (l s : Nat) : Nat → Int64 := (x_lr (la_mk x l s) l s).getD (fun _ => 0)
theorem la_row_e (x : zSt) (l s : Nat) : x_lr (la_mk x l s) l s = some (la_row x l s) := by
  obtain ⟨f, hf⟩ := la_mk_some x l s
  unfold la_row
  rw [hf]; rfl
/-- the tell's row is written: into the slot, and told -/
def la_wr (x : zSt) (l s : Nat) : zSt := u_lt (u_lr (la_mk x l s) (va_u2 (x_lr (la_mk x l s)) l s (some (rw_set (la_row x l s) (x_me x))))) (va_up (x_lt x) l (rw_set (x_lt x l) (x_me x)))
def la_tell (x : zSt) (l : Nat) : zSt :=
  if la_item x l (nI (x_lz x l) - 1) = -2 then la_wr x l ((x_lf x l + (x_lz x l - 1)) % 121) else if x_lz x l < 121 then la_wr (la_push x l (-2)) l ((x_lf x l + x_lz x l) % 121) else x
def la_nw (x : zSt) (l : Nat) : Prop := (if la_item x l (nI (x_lz x l) - 1) = -2 then x_lr x l ((x_lf x l + (x_lz x l - 1)) % 121) else x_lr x l ((x_lf x l + x_lz x l) % 121)) = none
def T_Lane_putTell (As : List zAV) (M : zMp) (Rt : Option zAV → zMp → Prop) (c1 c2 : Nat) : Prop := ∃ x l, As = [.inr (16, l, 0), .inr (5, 0, 1)] ∧ M = pic x ∧ ln_ok x l ∧ (la_nw x l → 2 ≤ c1 ∧ 6 ≤ c2) ∧ Rt none (pic (la_tell x l))
theorem dX1_putTell_0 : decode cX1_putTell 0 = .ok (.aload_n 0, 1) := by decide +kernel
theorem dX1_putTell_1 : decode cX1_putTell 1 = .ok (.aload_n 0, 1) := by decide +kernel
theorem dX1_putTell_2 : decode cX1_putTell 2 = .ok (.getfield 21, 3) := by decide +kernel
theorem dX1_putTell_5 : decode cX1_putTell 5 = .ok (.iconst 1, 1) := by decide +kernel
theorem dX1_putTell_6 : decode cX1_putTell 6 = .ok (.isub, 1) := by decide +kernel
theorem dX1_putTell_7 : decode cX1_putTell 7 = .ok (.invokevirtual 40, 3) := by decide +kernel
theorem dX1_putTell_10 : decode cX1_putTell 10 = .ok (.bipush (-2), 2) := by decide +kernel
theorem dX1_putTell_12 : decode cX1_putTell 12 = .ok (.if_icmp .eq 38, 3) := by decide +kernel
theorem dX1_putTell_15 : decode cX1_putTell 15 = .ok (.aload_n 0, 1) := by decide +kernel
theorem dX1_putTell_16 : decode cX1_putTell 16 = .ok (.getfield 21, 3) := by decide +kernel
theorem dX1_putTell_19 : decode cX1_putTell 19 = .ok (.bipush 121, 2) := by decide +kernel
theorem dX1_putTell_21 : decode cX1_putTell 21 = .ok (.if_icmp .lt 4, 3) := by decide +kernel
theorem dX1_putTell_24 : decode cX1_putTell 24 = .ok (.return_, 1) := by decide +kernel
theorem dX1_putTell_25 : decode cX1_putTell 25 = .ok (.aload_n 0, 1) := by decide +kernel
theorem dX1_putTell_26 : decode cX1_putTell 26 = .ok (.getfield 25, 3) := by decide +kernel
theorem dX1_putTell_29 : decode cX1_putTell 29 = .ok (.aload_n 0, 1) := by decide +kernel
theorem dX1_putTell_30 : decode cX1_putTell 30 = .ok (.aload_n 0, 1) := by decide +kernel
theorem dX1_putTell_31 : decode cX1_putTell 31 = .ok (.getfield 21, 3) := by decide +kernel
theorem dX1_putTell_34 : decode cX1_putTell 34 = .ok (.invokevirtual 36, 3) := by decide +kernel
theorem dX1_putTell_37 : decode cX1_putTell 37 = .ok (.bipush (-2), 2) := by decide +kernel
theorem dX1_putTell_39 : decode cX1_putTell 39 = .ok (.iastore, 1) := by decide +kernel
theorem dX1_putTell_40 : decode cX1_putTell 40 = .ok (.aload_n 0, 1) := by decide +kernel
theorem dX1_putTell_41 : decode cX1_putTell 41 = .ok (.dup, 1) := by decide +kernel
theorem dX1_putTell_42 : decode cX1_putTell 42 = .ok (.getfield 21, 3) := by decide +kernel
theorem dX1_putTell_45 : decode cX1_putTell 45 = .ok (.iconst 1, 1) := by decide +kernel
theorem dX1_putTell_46 : decode cX1_putTell 46 = .ok (.iadd, 1) := by decide +kernel
theorem dX1_putTell_47 : decode cX1_putTell 47 = .ok (.putfield 21, 3) := by decide +kernel
theorem dX1_putTell_50 : decode cX1_putTell 50 = .ok (.aload_n 0, 1) := by decide +kernel
theorem dX1_putTell_51 : decode cX1_putTell 51 = .ok (.aload_n 0, 1) := by decide +kernel
theorem dX1_putTell_52 : decode cX1_putTell 52 = .ok (.aload_n 0, 1) := by decide +kernel
theorem dX1_putTell_53 : decode cX1_putTell 53 = .ok (.getfield 21, 3) := by decide +kernel
theorem dX1_putTell_56 : decode cX1_putTell 56 = .ok (.iconst 1, 1) := by decide +kernel
theorem dX1_putTell_57 : decode cX1_putTell 57 = .ok (.isub, 1) := by decide +kernel
theorem dX1_putTell_58 : decode cX1_putTell 58 = .ok (.invokevirtual 36, 3) := by decide +kernel
theorem dX1_putTell_61 : decode cX1_putTell 61 = .ok (.invokevirtual 43, 3) := by decide +kernel
theorem dX1_putTell_64 : decode cX1_putTell 64 = .ok (.aload_n 1, 1) := by decide +kernel
theorem dX1_putTell_65 : decode cX1_putTell 65 = .ok (.invokevirtual 47, 3) := by decide +kernel
theorem dX1_putTell_68 : decode cX1_putTell 68 = .ok (.aload_n 0, 1) := by decide +kernel
theorem dX1_putTell_69 : decode cX1_putTell 69 = .ok (.getfield 12, 3) := by decide +kernel
theorem dX1_putTell_72 : decode cX1_putTell 72 = .ok (.aload_n 1, 1) := by decide +kernel
theorem dX1_putTell_73 : decode cX1_putTell 73 = .ok (.invokevirtual 47, 3) := by decide +kernel
theorem dX1_putTell_76 : decode cX1_putTell 76 = .ok (.return_, 1) := by decide +kernel
def B_Lane_putTell_50 (mc ms : Nat) (Rt : Option zAV → zMp → Prop) (g : Nat → zKT) : zKT :=
  (i_al 0 (i_al 0 (i_al 0 (i_gf 2 2 (i_ic 1 (i_isub (i_callV mc ms 2 2 T_Lane_slot co_Lane_slot (i_callV2 mc ms 2 2 T_Lane_rowAt (i_al 1 (i_callV mc ms 5 2 T_Row_set co_Row_set (i_al 0 (i_gf 2 0 (i_al 1 (i_callV mc ms 5 2 T_Row_set co_Row_set (i_vret mc ms Rt)))))))))))))))
set_option maxRecDepth 20000 in
theorem s_Lane_putTell_50 {X : zMa} {mc ms : Nat} {Rt : Option zAV → zMp → Prop} (hC : zCx X RX1 cX1_putTell 3 61 mc ms (none) false Rt) : zLe (B_Lane_putTell_50 mc ms Rt (zG X)) (zG X 50) :=
  (sd_al_n hC rfl dX1_putTell_50 ((sd_al_n hC rfl dX1_putTell_51 ((sd_al_n hC rfl dX1_putTell_52 ((sd_gf hC (ci := 2) (fk := 2) rfl wi_Lane (by decide) fl_Lane_21 (Or.inl rfl) dX1_putTell_53 ((sd_iconst hC (by decide) dX1_putTell_56 ((sd_isub hC dX1_putTell_57 ((sd_cV hC c_Lane_slot yv_Lane_slot (ci := 2) rfl rfl ml_Lane_36 (by decide) (by decide) dX1_putTell_58 ((sd_cV2 hC c_Lane_rowAt yv_Lane_rowAt (ci := 2) rfl rfl ml_Lane_43 (by decide) (by decide) dX1_putTell_61 ((sd_al_n hC rfl dX1_putTell_64 ((sd_cV hC c_Row_set yv_Row_set (ci := 5) rfl rfl ml_Lane_47 (by decide) (by decide) dX1_putTell_65 ((sd_al_n hC rfl dX1_putTell_68 ((sd_gf hC (ci := 2) (fk := 0) rfl wi_Lane (by decide) fl_Lane_12 (Or.inl rfl) dX1_putTell_69 ((sd_al_n hC rfl dX1_putTell_72 ((sd_cV hC c_Row_set yv_Row_set (ci := 5) rfl rfl ml_Lane_47 (by decide) (by decide) dX1_putTell_73 ((sd_vret hC dX1_putTell_76)))))))))))))))))))))))))))))
def B_Lane_putTell_25 (mc ms : Nat) (Rt : Option zAV → zMp → Prop) (g : Nat → zKT) : zKT :=
  (i_al 0 (i_gf 2 3 (i_al 0 (i_al 0 (i_gf 2 2 (i_callV mc ms 2 2 T_Lane_slot co_Lane_slot (i_ic (-2) (i_ias (i_al 0 (i_dup (i_gf 2 2 (i_ic 1 (i_iadd (i_pf 2 2 .int (B_Lane_putTell_50 mc ms Rt g)))))))))))))))
set_option maxRecDepth 20000 in
theorem s_Lane_putTell_25 {X : zMa} {mc ms : Nat} {Rt : Option zAV → zMp → Prop} (hC : zCx X RX1 cX1_putTell 3 61 mc ms (none) false Rt) : zLe (B_Lane_putTell_25 mc ms Rt (zG X)) (zG X 25) :=
  (sd_al_n hC rfl dX1_putTell_25 ((sd_gf hC (ci := 2) (fk := 3) rfl wi_Lane (by decide) fl_Lane_25 (Or.inl rfl) dX1_putTell_26 ((sd_al_n hC rfl dX1_putTell_29 ((sd_al_n hC rfl dX1_putTell_30 ((sd_gf hC (ci := 2) (fk := 2) rfl wi_Lane (by decide) fl_Lane_21 (Or.inl rfl) dX1_putTell_31 ((sd_cV hC c_Lane_slot yv_Lane_slot (ci := 2) rfl rfl ml_Lane_36 (by decide) (by decide) dX1_putTell_34 ((sd_bipush hC (by decide) dX1_putTell_37 ((sd_ias hC dX1_putTell_39 ((sd_al_n hC rfl dX1_putTell_40 ((sd_dup hC dX1_putTell_41 ((sd_gf hC (ci := 2) (fk := 2) rfl wi_Lane (by decide) fl_Lane_21 (Or.inl rfl) dX1_putTell_42 ((sd_iconst hC (by decide) dX1_putTell_45 ((sd_iadd hC dX1_putTell_46 ((sd_pf hC (ci := 2) (fk := 2) rfl wi_Lane tyX1 tyX1_ok nmX1 (by decide) fl_Lane_21 (Or.inl rfl) (Or.inl rfl) dX1_putTell_47 (s_Lane_putTell_50 hC))))))))))))))))))))))))))))
def B_Lane_putTell_0 (mc ms : Nat) (Rt : Option zAV → zMp → Prop) (g : Nat → zKT) : zKT :=
  (i_al 0 (i_al 0 (i_gf 2 2 (i_ic 1 (i_isub (i_callV mc ms 2 2 T_Lane_itemAt co_Lane_itemAt (i_ic (-2) (i_iceq (B_Lane_putTell_50 mc ms Rt g) (i_al 0 (i_gf 2 2 (i_ic 121 (i_iclt (B_Lane_putTell_25 mc ms Rt g) (i_vret mc ms Rt)))))))))))))
set_option maxRecDepth 20000 in
theorem s_Lane_putTell_0 {X : zMa} {mc ms : Nat} {Rt : Option zAV → zMp → Prop} (hC : zCx X RX1 cX1_putTell 3 61 mc ms (none) false Rt) : zLe (B_Lane_putTell_0 mc ms Rt (zG X)) (zG X 0) :=
  (sd_al_n hC rfl dX1_putTell_0 ((sd_al_n hC rfl dX1_putTell_1 ((sd_gf hC (ci := 2) (fk := 2) rfl wi_Lane (by decide) fl_Lane_21 (Or.inl rfl) dX1_putTell_2 ((sd_iconst hC (by decide) dX1_putTell_5 ((sd_isub hC dX1_putTell_6 ((sd_cV hC c_Lane_itemAt yv_Lane_itemAt (ci := 2) rfl rfl ml_Lane_40 (by decide) (by decide) dX1_putTell_7 ((sd_bipush hC (by decide) dX1_putTell_10 ((sd_iceq hC (tgt := 50) (by decide) dX1_putTell_12 (s_Lane_putTell_50 hC) ((sd_al_n hC rfl dX1_putTell_15 ((sd_gf hC (ci := 2) (fk := 2) rfl wi_Lane (by decide) fl_Lane_21 (Or.inl rfl) dX1_putTell_16 ((sd_bipush hC (by decide) dX1_putTell_19 ((sd_iclt hC (tgt := 25) (by decide) dX1_putTell_21 (s_Lane_putTell_25 hC) ((sd_vret hC dX1_putTell_24)))))))))))))))))))))))))
theorem la_item_lt {x : zSt} {l : Nat} {i : Int32} (h : la_item x l i = -2) : 0 < x_lz x l := by
  unfold la_item at h
  split at h
  · next hc =>
    rcases Nat.eq_zero_or_pos (x_lz x l) with h0 | h0
    · rw [h0] at hc
      exact absurd hc.2 (fun z => hc.1 z)
    · exact h0
  · exact absurd h (by decide)
theorem c_Lane_putTell (l : Launch) : zCT2 l yX1_putTell cX1_putTell 2 (none) 3 61 T_Lane_putTell := by
  intro As M Rt c1 c2 hT
  obtain ⟨x, j, rfl, rfl, hok, hc, hR⟩ := hT
  refine zMet_of false (by decide +kernel) (fun h => by first | rfl | cases h) (Nat.le_of_ble_eq_true rfl) (fun X hN hC => ?_)
  show zG X 0 [some (.inr (16, j, 0)), some (.inr (5, 0, 1))] [] (pic x) 0 0
  -- from 50 on
  have fin : ∀ y : zSt, ln_ok y j → 0 < x_lz y j → (x_lr y j ((x_lf y j + (x_lz y j - 1)) % 121) = none → 2 ≤ c1 ∧ 6 ≤ c2) → Rt none (pic (la_wr y j ((x_lf y j + (x_lz y j - 1)) % 121))) → B_Lane_putTell_50 c1 c2 Rt (zG X) [some (.inr (16, j, 0)), some (.inr (5, 0, 1))] [] (pic y) 0 0 := by
    intro y hoky hpos hcy hr
    obtain ⟨h1, h2, h3⟩ := id hoky
    generalize hs : (x_lf y j + (x_lz y j - 1)) % 121 = s at hcy hr
    have hs121 : s < 121 := by rw [← hs]; exact Nat.mod_lt _ (by decide)
    simp only [B_Lane_putTell_0, B_Lane_putTell_25, B_Lane_putTell_50, co_Lane_itemAt, co_Lane_slot, co_Row_set, i_ic, i_lc, i_nul, i_il, i_ll, i_al, i_is, i_as, i_ls, i_inc, i_iadd, i_isub, i_imul, i_iand, i_ior, i_ixor, i_idiv, i_irem, i_ishl, i_ishr, i_ladd, i_lsub, i_land, i_lor, i_i2l, i_lushr, i_lshl, i_lshr, i_lcmp, i_dup, i_pop, i_dx1, i_dup2, i_ifeq, i_ifne, i_iflt, i_ifge, i_ifgt, i_ifle, i_iceq, i_icne, i_iclt, i_icge, i_icgt, i_icle, i_ifn, i_gf, i_pf, i_ial, i_bal, i_lal, i_aal, i_ias, i_las, i_bas, i_aas, i_alen, i_newa, i_new, i_anew, i_cast, i_oi, i_call, i_callV, i_callV2, i_callI, i_iret, i_zret, i_lret, i_vret, i_aret, i_mmx, i_mmn, i_gsE, i_aceq, i_no, i_acq, i_sw, zsw, zlg, zls, znl, zfg, zcs, zsp, zrc, zisn, zft, zc1, zto, Value.category, List.set_cons_zero, List.set_cons_succ, List.length_cons, List.length_nil, Option.toList, List.append, List.nil_append, List.cons_append, true_and, and_true, Nat.add_zero, Nat.zero_le, Nat.zero_add, Nat.le_refl, Nat.reduceAdd, Nat.reduceLeDiff, co0, z0, zn_0, zn_1, zn_2, zn_3, zn_4, zn_5, zn_8, zn_12, zn_24, zn_121, zn_144, zn_256, zn_300, zn_600, zn_720, zn_1204, zn_1280, zn_2400, zn_4816, zn_14400, zn_90000, p_lane h1, x_lane]
    have e1 : nI (x_lz y j) - 1 = nI (x_lz y j - 1) := by
      obtain ⟨m, hm⟩ : ∃ m, x_lz y j = m + 1 := ⟨x_lz y j - 1, by omega⟩
      rw [hm, nI_pred]; rfl
    rw [e1]
    refine ⟨y, j, x_lz y j - 1, rfl, rfl, hoky, by omega, ?_⟩
    rw [hs]
    simp only [p_lane h1, x_lane, i_ic, i_lc, i_nul, i_il, i_ll, i_al, i_is, i_as, i_ls, i_inc, i_iadd, i_isub, i_imul, i_iand, i_ior, i_ixor, i_idiv, i_irem, i_ishl, i_ishr, i_ladd, i_lsub, i_land, i_lor, i_i2l, i_lushr, i_lshl, i_lshr, i_lcmp, i_dup, i_pop, i_dx1, i_dup2, i_ifeq, i_ifne, i_iflt, i_ifge, i_ifgt, i_ifle, i_iceq, i_icne, i_iclt, i_icge, i_icgt, i_icle, i_ifn, i_gf, i_pf, i_ial, i_bal, i_lal, i_aal, i_ias, i_las, i_bas, i_aas, i_alen, i_newa, i_new, i_anew, i_cast, i_oi, i_call, i_callV, i_callV2, i_callI, i_iret, i_zret, i_lret, i_vret, i_aret, i_mmx, i_mmn, i_gsE, i_aceq, i_no, i_acq, i_sw, zsw, zlg, zls, znl, zfg, zcs, zsp, zrc, zisn, zft, zc1, zto, Value.category, List.set_cons_zero, List.set_cons_succ, List.length_cons, List.length_nil, Option.toList, List.append, List.nil_append, List.cons_append, true_and, and_true, Nat.add_zero, Nat.zero_le, Nat.zero_add, Nat.le_refl, Nat.reduceAdd, Nat.reduceLeDiff, co0, z0, zn_0, zn_1, zn_2, zn_3, zn_4, zn_5, zn_8, zn_12, zn_24, zn_121, zn_144, zn_256, zn_300, zn_600, zn_720, zn_1204, zn_1280, zn_2400, zn_4816, zn_14400, zn_90000]
    refine ⟨if x_lr y j s = none then 2 else 0, if x_lr y j s = none then 6 else 0, ?_, ?_, y, j, s, rfl, rfl, h1, hs121, ?_, ?_⟩
    · split
      · next q => exact (hcy q).1
      · exact Nat.zero_le _
    · split
      · next q => exact (hcy q).2
      · exact Nat.zero_le _
    · intro q; rw [if_pos q, if_pos q]; decide
    · generalize hk1 : (if x_lr y j s = none then 2 else 0) = k1
      generalize hk2 : (if x_lr y j s = none then 6 else 0) = k2
      have hk1c : k1 ≤ c1 := by
        rw [← hk1]; split
        · next q => exact (hcy q).1
        · exact Nat.zero_le _
      have hk2c : k2 ≤ c2 := by
        rw [← hk2]; split
        · next q => exact (hcy q).2
        · exact Nat.zero_le _
      have hnl : j < x_nl (la_mk y j s) := by rw [nl_mk]; exact h1
      have er : x_rw (la_mk y j s) (4 + j) s = some (la_row y j s) := by rw [r_lr hnl hs121]; exact la_row_e y j s
      simp only [p_rowO er, i_ic, i_lc, i_nul, i_il, i_ll, i_al, i_is, i_as, i_ls, i_inc, i_iadd, i_isub, i_imul, i_iand, i_ior, i_ixor, i_idiv, i_irem, i_ishl, i_ishr, i_ladd, i_lsub, i_land, i_lor, i_i2l, i_lushr, i_lshl, i_lshr, i_lcmp, i_dup, i_pop, i_dx1, i_dup2, i_ifeq, i_ifne, i_iflt, i_ifge, i_ifgt, i_ifle, i_iceq, i_icne, i_iclt, i_icge, i_icgt, i_icle, i_ifn, i_gf, i_pf, i_ial, i_bal, i_lal, i_aal, i_ias, i_las, i_bas, i_aas, i_alen, i_newa, i_new, i_anew, i_cast, i_oi, i_call, i_callV, i_callV2, i_callI, i_iret, i_zret, i_lret, i_vret, i_aret, i_mmx, i_mmn, i_gsE, i_aceq, i_no, i_acq, i_sw, zsw, zlg, zls, znl, zfg, zcs, zsp, zrc, zisn, zft, zc1, zto, Value.category, List.set_cons_zero, List.set_cons_succ, List.length_cons, List.length_nil, Option.toList, List.append, List.nil_append, List.cons_append, true_and, and_true, Nat.add_zero, Nat.zero_le, Nat.zero_add, Nat.le_refl, Nat.reduceAdd, Nat.reduceLeDiff, co0, z0, zn_0, zn_1, zn_2, zn_3, zn_4, zn_5, zn_8, zn_12, zn_24, zn_121, zn_144, zn_256, zn_300, zn_600, zn_720, zn_1204, zn_1280, zn_2400, zn_4816, zn_14400, zn_90000]
      refine ⟨hk1c, hk2c, (5, 4 + j, s), (6, 4 + j, s), la_row y j s, (5, 0, 1), (6, 0, 1), x_me (la_mk y j s), rfl, m_k (by decide), by simp, p_row er, p_row (r_me _), ?_⟩
      rw [me_mk, pu_lr _ j s _ hnl hs121 (by rw [la_row_e]; simp)]
      generalize hy2 : u_lr (la_mk y j s) (va_u2 (x_lr (la_mk y j s)) j s (some (rw_set (la_row y j s) (x_me y)))) = y2
      have h12 : j < x_nl y2 := by rw [← hy2]; exact hnl
      have eme : x_me y2 = x_me y := by rw [← hy2, g_me_lr, me_mk]
      have elt : x_lt y2 = x_lt y := by rw [← hy2, g_lt_lr, lt_mk]
      simp only [p_lane h12, x_lane, p_rowO (r_lt h12), i_ic, i_lc, i_nul, i_il, i_ll, i_al, i_is, i_as, i_ls, i_inc, i_iadd, i_isub, i_imul, i_iand, i_ior, i_ixor, i_idiv, i_irem, i_ishl, i_ishr, i_ladd, i_lsub, i_land, i_lor, i_i2l, i_lushr, i_lshl, i_lshr, i_lcmp, i_dup, i_pop, i_dx1, i_dup2, i_ifeq, i_ifne, i_iflt, i_ifge, i_ifgt, i_ifle, i_iceq, i_icne, i_iclt, i_icge, i_icgt, i_icle, i_ifn, i_gf, i_pf, i_ial, i_bal, i_lal, i_aal, i_ias, i_las, i_bas, i_aas, i_alen, i_newa, i_new, i_anew, i_cast, i_oi, i_call, i_callV, i_callV2, i_callI, i_iret, i_zret, i_lret, i_vret, i_aret, i_mmx, i_mmn, i_gsE, i_aceq, i_no, i_acq, i_sw, zsw, zlg, zls, znl, zfg, zcs, zsp, zrc, zisn, zft, zc1, zto, Value.category, List.set_cons_zero, List.set_cons_succ, List.length_cons, List.length_nil, Option.toList, List.append, List.nil_append, List.cons_append, true_and, and_true, Nat.add_zero, Nat.zero_le, Nat.zero_add, Nat.le_refl, Nat.reduceAdd, Nat.reduceLeDiff, co0, z0, zn_0, zn_1, zn_2, zn_3, zn_4, zn_5, zn_8, zn_12, zn_24, zn_121, zn_144, zn_256, zn_300, zn_600, zn_720, zn_1204, zn_1280, zn_2400, zn_4816, zn_14400, zn_90000]
      refine ⟨hk1c, hk2c, (5, 2, j), (6, 2, j), x_lt y2 j, (5, 0, 1), (6, 0, 1), x_me y2, rfl, m_k (by decide), by simp, p_row (r_lt h12), p_row (r_me _), ?_⟩
      simp only [i_ic, i_lc, i_nul, i_il, i_ll, i_al, i_is, i_as, i_ls, i_inc, i_iadd, i_isub, i_imul, i_iand, i_ior, i_ixor, i_idiv, i_irem, i_ishl, i_ishr, i_ladd, i_lsub, i_land, i_lor, i_i2l, i_lushr, i_lshl, i_lshr, i_lcmp, i_dup, i_pop, i_dx1, i_dup2, i_ifeq, i_ifne, i_iflt, i_ifge, i_ifgt, i_ifle, i_iceq, i_icne, i_iclt, i_icge, i_icgt, i_icle, i_ifn, i_gf, i_pf, i_ial, i_bal, i_lal, i_aal, i_ias, i_las, i_bas, i_aas, i_alen, i_newa, i_new, i_anew, i_cast, i_oi, i_call, i_callV, i_callV2, i_callI, i_iret, i_zret, i_lret, i_vret, i_aret, i_mmx, i_mmn, i_gsE, i_aceq, i_no, i_acq, i_sw, zsw, zlg, zls, znl, zfg, zcs, zsp, zrc, zisn, zft, zc1, zto, Value.category, List.set_cons_zero, List.set_cons_succ, List.length_cons, List.length_nil, Option.toList, List.append, List.nil_append, List.cons_append, true_and, and_true, Nat.add_zero, Nat.zero_le, Nat.zero_add, Nat.le_refl, Nat.reduceAdd, Nat.reduceLeDiff, co0, z0, zn_0, zn_1, zn_2, zn_3, zn_4, zn_5, zn_8, zn_12, zn_24, zn_121, zn_144, zn_256, zn_300, zn_600, zn_720, zn_1204, zn_1280, zn_2400, zn_4816, zn_14400, zn_90000]
      refine ⟨hk1c, hk2c, ?_⟩
      rw [pu_lt y2 j _ h12, eme, elt, ← hy2]
      exact hr
  obtain ⟨h1, h2, h3⟩ := id hok
  refine s_Lane_putTell_0 hC _ _ _ _ _ ?_
  have f50 := fin
  simp only [B_Lane_putTell_0, B_Lane_putTell_25, B_Lane_putTell_50, co_Lane_itemAt, co_Lane_slot, co_Row_set, i_ic, i_lc, i_nul, i_il, i_ll, i_al, i_is, i_as, i_ls, i_inc, i_iadd, i_isub, i_imul, i_iand, i_ior, i_ixor, i_idiv, i_irem, i_ishl, i_ishr, i_ladd, i_lsub, i_land, i_lor, i_i2l, i_lushr, i_lshl, i_lshr, i_lcmp, i_dup, i_pop, i_dx1, i_dup2, i_ifeq, i_ifne, i_iflt, i_ifge, i_ifgt, i_ifle, i_iceq, i_icne, i_iclt, i_icge, i_icgt, i_icle, i_ifn, i_gf, i_pf, i_ial, i_bal, i_lal, i_aal, i_ias, i_las, i_bas, i_aas, i_alen, i_newa, i_new, i_anew, i_cast, i_oi, i_call, i_callV, i_callV2, i_callI, i_iret, i_zret, i_lret, i_vret, i_aret, i_mmx, i_mmn, i_gsE, i_aceq, i_no, i_acq, i_sw, zsw, zlg, zls, znl, zfg, zcs, zsp, zrc, zisn, zft, zc1, zto, Value.category, List.set_cons_zero, List.set_cons_succ, List.length_cons, List.length_nil, Option.toList, List.append, List.nil_append, List.cons_append, true_and, and_true, Nat.add_zero, Nat.zero_le, Nat.zero_add, Nat.le_refl, Nat.reduceAdd, Nat.reduceLeDiff, co0, z0, zn_0, zn_1, zn_2, zn_3, zn_4, zn_5, zn_8, zn_12, zn_24, zn_121, zn_144, zn_256, zn_300, zn_600, zn_720, zn_1204, zn_1280, zn_2400, zn_4816, zn_14400, zn_90000, p_lane h1, x_lane]
  refine ⟨x, j, _, rfl, rfl, hok, ?_⟩
  simp only [p_lane h1, x_lane, i_ic, i_lc, i_nul, i_il, i_ll, i_al, i_is, i_as, i_ls, i_inc, i_iadd, i_isub, i_imul, i_iand, i_ior, i_ixor, i_idiv, i_irem, i_ishl, i_ishr, i_ladd, i_lsub, i_land, i_lor, i_i2l, i_lushr, i_lshl, i_lshr, i_lcmp, i_dup, i_pop, i_dx1, i_dup2, i_ifeq, i_ifne, i_iflt, i_ifge, i_ifgt, i_ifle, i_iceq, i_icne, i_iclt, i_icge, i_icgt, i_icle, i_ifn, i_gf, i_pf, i_ial, i_bal, i_lal, i_aal, i_ias, i_las, i_bas, i_aas, i_alen, i_newa, i_new, i_anew, i_cast, i_oi, i_call, i_callV, i_callV2, i_callI, i_iret, i_zret, i_lret, i_vret, i_aret, i_mmx, i_mmn, i_gsE, i_aceq, i_no, i_acq, i_sw, zsw, zlg, zls, znl, zfg, zcs, zsp, zrc, zisn, zft, zc1, zto, Value.category, List.set_cons_zero, List.set_cons_succ, List.length_cons, List.length_nil, Option.toList, List.append, List.nil_append, List.cons_append, true_and, and_true, Nat.add_zero, Nat.zero_le, Nat.zero_add, Nat.le_refl, Nat.reduceAdd, Nat.reduceLeDiff, co0, z0, zn_0, zn_1, zn_2, zn_3, zn_4, zn_5, zn_8, zn_12, zn_24, zn_121, zn_144, zn_256, zn_300, zn_600, zn_720, zn_1204, zn_1280, zn_2400, zn_4816, zn_14400, zn_90000]
  refine ⟨fun hi => ?_, fun hi => ⟨fun hlt => ?_, fun hge => ?_⟩⟩
  · have hpos := la_item_lt hi
    have := f50 x hok hpos (fun q => hc (by unfold la_nw; rw [if_pos hi]; exact q)) (by unfold la_tell at hR; rw [if_pos hi] at hR; exact hR)
    simp only [B_Lane_putTell_0, B_Lane_putTell_25, B_Lane_putTell_50, co_Lane_itemAt, co_Lane_slot, co_Row_set, i_ic, i_lc, i_nul, i_il, i_ll, i_al, i_is, i_as, i_ls, i_inc, i_iadd, i_isub, i_imul, i_iand, i_ior, i_ixor, i_idiv, i_irem, i_ishl, i_ishr, i_ladd, i_lsub, i_land, i_lor, i_i2l, i_lushr, i_lshl, i_lshr, i_lcmp, i_dup, i_pop, i_dx1, i_dup2, i_ifeq, i_ifne, i_iflt, i_ifge, i_ifgt, i_ifle, i_iceq, i_icne, i_iclt, i_icge, i_icgt, i_icle, i_ifn, i_gf, i_pf, i_ial, i_bal, i_lal, i_aal, i_ias, i_las, i_bas, i_aas, i_alen, i_newa, i_new, i_anew, i_cast, i_oi, i_call, i_callV, i_callV2, i_callI, i_iret, i_zret, i_lret, i_vret, i_aret, i_mmx, i_mmn, i_gsE, i_aceq, i_no, i_acq, i_sw, zsw, zlg, zls, znl, zfg, zcs, zsp, zrc, zisn, zft, zc1, zto, Value.category, List.set_cons_zero, List.set_cons_succ, List.length_cons, List.length_nil, Option.toList, List.append, List.nil_append, List.cons_append, true_and, and_true, Nat.add_zero, Nat.zero_le, Nat.zero_add, Nat.le_refl, Nat.reduceAdd, Nat.reduceLeDiff, co0, z0, zn_0, zn_1, zn_2, zn_3, zn_4, zn_5, zn_8, zn_12, zn_24, zn_121, zn_144, zn_256, zn_300, zn_600, zn_720, zn_1204, zn_1280, zn_2400, zn_4816, zn_14400, zn_90000, p_lane h1, x_lane] at this
    exact this
  · have hlt := (nI_ltI (a := x_lz x j) (b := 121) (by omega) (by decide)).mp hlt
    refine ⟨x, j, x_lz x j, rfl, rfl, hok, by omega, ?_⟩
    simp only [p_item h1, i_ic, i_lc, i_nul, i_il, i_ll, i_al, i_is, i_as, i_ls, i_inc, i_iadd, i_isub, i_imul, i_iand, i_ior, i_ixor, i_idiv, i_irem, i_ishl, i_ishr, i_ladd, i_lsub, i_land, i_lor, i_i2l, i_lushr, i_lshl, i_lshr, i_lcmp, i_dup, i_pop, i_dx1, i_dup2, i_ifeq, i_ifne, i_iflt, i_ifge, i_ifgt, i_ifle, i_iceq, i_icne, i_iclt, i_icge, i_icgt, i_icle, i_ifn, i_gf, i_pf, i_ial, i_bal, i_lal, i_aal, i_ias, i_las, i_bas, i_aas, i_alen, i_newa, i_new, i_anew, i_cast, i_oi, i_call, i_callV, i_callV2, i_callI, i_iret, i_zret, i_lret, i_vret, i_aret, i_mmx, i_mmn, i_gsE, i_aceq, i_no, i_acq, i_sw, zsw, zlg, zls, znl, zfg, zcs, zsp, zrc, zisn, zft, zc1, zto, Value.category, List.set_cons_zero, List.set_cons_succ, List.length_cons, List.length_nil, Option.toList, List.append, List.nil_append, List.cons_append, true_and, and_true, Nat.add_zero, Nat.zero_le, Nat.zero_add, Nat.le_refl, Nat.reduceAdd, Nat.reduceLeDiff, co0, z0, zn_0, zn_1, zn_2, zn_3, zn_4, zn_5, zn_8, zn_12, zn_24, zn_121, zn_144, zn_256, zn_300, zn_600, zn_720, zn_1204, zn_1280, zn_2400, zn_4816, zn_14400, zn_90000]
    refine ⟨m_k (by decide), vp_in_nI (Nat.mod_lt _ (by decide)) (by decide), ?_⟩
    rw [nI_clamp (Nat.lt_trans (Nat.mod_lt _ (by decide)) (by decide)), pu_li x j _ h1]
    have h1' : j < x_nl (u_li x (va_up (x_li x) j (upd (x_li x j) ((x_lf x j + x_lz x j) % 121) (-2)))) := h1
    simp only [p_lane h1', x_lane, g_dk_li, g_lk_li, g_po_li, g_ne_li, g_td_li, g_nb_li, g_ln_li, g_nr_li, g_nw_li, g_nn_li, g_ns_li, g_or_li, g_ow_li, g_on_li, g_nl_li, g_ng_li, g_rg_li, g_lc_li, g_cp_li, g_gb_li, g_sp_li, g_kn_li, g_me_li, g_ob_li, g_fk_li, g_fz_li, g_fg_li, g_rd_li, g_rz_li, g_rh_li, g_nd_li, g_nm_li, g_nv_li, g_nh_li, g_nf_li, g_wr_li, g_wa_li, g_lz_li, g_lf_li, g_li_li, g_lt_li, g_lb_li, g_lr_li, g_tn_li, g_tf_li, i_ic, i_lc, i_nul, i_il, i_ll, i_al, i_is, i_as, i_ls, i_inc, i_iadd, i_isub, i_imul, i_iand, i_ior, i_ixor, i_idiv, i_irem, i_ishl, i_ishr, i_ladd, i_lsub, i_land, i_lor, i_i2l, i_lushr, i_lshl, i_lshr, i_lcmp, i_dup, i_pop, i_dx1, i_dup2, i_ifeq, i_ifne, i_iflt, i_ifge, i_ifgt, i_ifle, i_iceq, i_icne, i_iclt, i_icge, i_icgt, i_icle, i_ifn, i_gf, i_pf, i_ial, i_bal, i_lal, i_aal, i_ias, i_las, i_bas, i_aas, i_alen, i_newa, i_new, i_anew, i_cast, i_oi, i_call, i_callV, i_callV2, i_callI, i_iret, i_zret, i_lret, i_vret, i_aret, i_mmx, i_mmn, i_gsE, i_aceq, i_no, i_acq, i_sw, zsw, zlg, zls, znl, zfg, zcs, zsp, zrc, zisn, zft, zc1, zto, Value.category, List.set_cons_zero, List.set_cons_succ, List.length_cons, List.length_nil, Option.toList, List.append, List.nil_append, List.cons_append, true_and, and_true, Nat.add_zero, Nat.zero_le, Nat.zero_add, Nat.le_refl, Nat.reduceAdd, Nat.reduceLeDiff, co0, z0, zn_0, zn_1, zn_2, zn_3, zn_4, zn_5, zn_8, zn_12, zn_24, zn_121, zn_144, zn_256, zn_300, zn_600, zn_720, zn_1204, zn_1280, zn_2400, zn_4816, zn_14400, zn_90000]
    rw [nI_1]
    refine ⟨m_k (by decide), by decide, ?_⟩
    have e : zup (pic (u_li x (va_up (x_li x) j (upd (x_li x j) ((x_lf x j + x_lz x j) % 121) (-2))))) (16, j, 0) (.inr (2, [.inr (5, 2, j), .inr (5, 3, j), .inl (.int (nI (x_lz x j + 1))), .inr (17, j, 0), .inr (18, j, 0), .inl (.int (nI (x_lf x j)))])) = pic (la_push x j (-2)) := by
      refine Eq.trans ?_ (pu_lz (u_li x (va_up (x_li x) j (upd (x_li x j) ((x_lf x j + x_lz x j) % 121) (-2)))) j (x_lz x j + 1) h1')
      simp only [x_lane, g_dk_li, g_lk_li, g_po_li, g_ne_li, g_td_li, g_nb_li, g_ln_li, g_nr_li, g_nw_li, g_nn_li, g_ns_li, g_or_li, g_ow_li, g_on_li, g_nl_li, g_ng_li, g_rg_li, g_lc_li, g_cp_li, g_gb_li, g_sp_li, g_kn_li, g_me_li, g_ob_li, g_fk_li, g_fz_li, g_fg_li, g_rd_li, g_rz_li, g_rh_li, g_nd_li, g_nm_li, g_nv_li, g_nh_li, g_nf_li, g_wr_li, g_wa_li, g_lz_li, g_lf_li, g_li_li, g_lt_li, g_lb_li, g_lr_li, g_tn_li, g_tf_li, g_dk_lz, g_lk_lz, g_po_lz, g_ne_lz, g_td_lz, g_nb_lz, g_ln_lz, g_nr_lz, g_nw_lz, g_nn_lz, g_ns_lz, g_or_lz, g_ow_lz, g_on_lz, g_nl_lz, g_ng_lz, g_rg_lz, g_lc_lz, g_cp_lz, g_gb_lz, g_sp_lz, g_kn_lz, g_me_lz, g_ob_lz, g_fk_lz, g_fz_lz, g_fg_lz, g_rd_lz, g_rz_lz, g_rh_lz, g_nd_lz, g_nm_lz, g_nv_lz, g_nh_lz, g_nf_lz, g_wr_lz, g_wa_lz, g_lz_lz, g_lf_lz, g_li_lz, g_lt_lz, g_lb_lz, g_lr_lz, g_tn_lz, g_tf_lz, va_up, if_true]
    rw [e]
    have el : x_lf (la_push x j (-2)) j = x_lf x j := rfl
    have e5 : x_lf (la_push x j (-2)) j + (x_lz (la_push x j (-2)) j - 1) = x_lf x j + x_lz x j := by rw [el, lz_push]; rfl
    have := f50 (la_push x j (-2)) (ok_push hok hlt) (by rw [lz_push]; omega) (fun q => hc (by
      unfold la_nw; rw [if_neg hi]; rw [e5] at q; exact q)) (by
      unfold la_tell at hR; rw [if_neg hi, if_pos hlt] at hR; rw [e5]; exact hR)
    simp only [B_Lane_putTell_0, B_Lane_putTell_25, B_Lane_putTell_50, co_Lane_itemAt, co_Lane_slot, co_Row_set, i_ic, i_lc, i_nul, i_il, i_ll, i_al, i_is, i_as, i_ls, i_inc, i_iadd, i_isub, i_imul, i_iand, i_ior, i_ixor, i_idiv, i_irem, i_ishl, i_ishr, i_ladd, i_lsub, i_land, i_lor, i_i2l, i_lushr, i_lshl, i_lshr, i_lcmp, i_dup, i_pop, i_dx1, i_dup2, i_ifeq, i_ifne, i_iflt, i_ifge, i_ifgt, i_ifle, i_iceq, i_icne, i_iclt, i_icge, i_icgt, i_icle, i_ifn, i_gf, i_pf, i_ial, i_bal, i_lal, i_aal, i_ias, i_las, i_bas, i_aas, i_alen, i_newa, i_new, i_anew, i_cast, i_oi, i_call, i_callV, i_callV2, i_callI, i_iret, i_zret, i_lret, i_vret, i_aret, i_mmx, i_mmn, i_gsE, i_aceq, i_no, i_acq, i_sw, zsw, zlg, zls, znl, zfg, zcs, zsp, zrc, zisn, zft, zc1, zto, Value.category, List.set_cons_zero, List.set_cons_succ, List.length_cons, List.length_nil, Option.toList, List.append, List.nil_append, List.cons_append, true_and, and_true, Nat.add_zero, Nat.zero_le, Nat.zero_add, Nat.le_refl, Nat.reduceAdd, Nat.reduceLeDiff, co0, z0, zn_0, zn_1, zn_2, zn_3, zn_4, zn_5, zn_8, zn_12, zn_24, zn_121, zn_144, zn_256, zn_300, zn_600, zn_720, zn_1204, zn_1280, zn_2400, zn_4816, zn_14400, zn_90000] at this
    exact this
  · have hge := fun z => hge ((nI_ltI (a := x_lz x j) (b := 121) (by omega) (by decide)).mpr z)
    unfold la_tell at hR
    rw [if_neg hi, if_neg hge] at hR
    exact hR
