/-! WishRoutes: telling the neighbours of a desk -/
theorem Iv_lr {x : zSt} {f : Nat → Nat → Option (Nat → Int64)} (h : Iv x) : Iv (u_lr x f) := h
theorem Iv_lt {x : zSt} {f : Nat → Nat → Int64} (h : Iv x) : Iv (u_lt x f) := h
theorem Iv_lb {x : zSt} {f : Nat → Nat → Int64} (h : Iv x) : Iv (u_lb x f) := h
theorem Iv_li {x : zSt} {f : Nat → Nat → Int32} (h : Iv x) : Iv (u_li x f) := h
theorem Iv_mk {x : zSt} {l s : Nat} (h : Iv x) : Iv (la_mk x l s) := by
  unfold la_mk
  split
  · exact h
  · exact h
theorem Iv_lz {x : zSt} {l v : Nat} (h : Iv x) (hv : v ≤ 121) : Iv (u_lz x (va_up (x_lz x) l v)) := by
  obtain ⟨h1, h2, h3, h4, h5, h6, h7, h8, h9, h10, h11⟩ := h
  refine ⟨h1, h2, h3, h4, h5, h6, h7, h8, fun l' hl' => ⟨?_, (h9 l' hl').2⟩, h10, h11⟩
  rw [g_lz_lz]
  simp only [va_up]
  split
  · exact hv
  · exact (h9 l' hl').1
theorem Iv_lf {x : zSt} {l v : Nat} (h : Iv x) (hv : v < 121) : Iv (u_lf x (va_up (x_lf x) l v)) := by
  obtain ⟨h1, h2, h3, h4, h5, h6, h7, h8, h9, h10, h11⟩ := h
  refine ⟨h1, h2, h3, h4, h5, h6, h7, h8, fun l' hl' => ⟨(h9 l' hl').1, ?_⟩, h10, h11⟩
  rw [g_lf_lf]
  simp only [va_up]
  split
  · exact hv
  · exact (h9 l' hl').2
theorem Iv_push {x : zSt} {l : Nat} {v : Int32} (h : Iv x) (hz : x_lz x l < 121) : Iv (la_push x l v) := Iv_lz (x := u_li x (va_up (x_li x) l (upd (x_li x l) ((x_lf x l + x_lz x l) % 121) v))) (Iv_li h) (by omega)
theorem Iv_wr {x : zSt} {l s : Nat} (h : Iv x) : Iv (la_wr x l s) := Iv_lt (Iv_lr (Iv_mk h))
theorem Iv_tell {x : zSt} {l : Nat} (h : Iv x) : Iv (la_tell x l) := by
  unfold la_tell
  split
  · exact Iv_wr h
  · split
    · next hz => exact Iv_wr (Iv_push h hz)
    · exact h
theorem Iv_fmn {x : zSt} {u v : Int32} (h : Iv x) : Iv (fmn x u v) := h
/-- one neighbour -/
noncomputable def tn_s (x : zSt) (u : Int32) (n : Nat) : zSt := match lnF x u (nI n) with
  | none => x
  | some l => if rw_same (x_me (fmn x u (nI n))) (x_lt x l) = true then fmn x u (nI n) else la_tell (fmn x u (nI n)) l
/-- the neighbours below n -/
noncomputable def tn (x : zSt) (u : Int32) : Nat → zSt
  | 0 => x
  | n + 1 => tn_s (tn x u n) u n
/-- is a row made there? -/
def tn_w (x : zSt) (u : Int32) (n : Nat) : Prop := ∃ l, lnF x u (nI n) = some l ∧ rw_same (x_me (fmn x u (nI n))) (x_lt x l) = false ∧ la_nw (fmn x u (nI n)) l
noncomputable def tn_c (x : zSt) (u : Int32) : Nat → Nat
  | 0 => 0
  | n + 1 => tn_c x u n + (if zd (tn_w (tn x u n) u n) = true then 1 else 0)
theorem Iv_tns {x : zSt} {u : Int32} {n : Nat} (h : Iv x) : Iv (tn_s x u n) := by
  unfold tn_s
  split
  · exact h
  · split
    · exact Iv_fmn h
    · exact Iv_tell (Iv_fmn h)
theorem Iv_tn {x : zSt} {u : Int32} (h : Iv x) : ∀ n, Iv (tn x u n)
  | 0 => h
  | n + 1 => Iv_tns (Iv_tn h n)
/-- what telling leaves as it was -/
def tn_k (x y : zSt) : Prop := x_dk y = x_dk x ∧ x_ln y = x_ln x ∧ x_nl y = x_nl x
theorem tn_k_mk (x : zSt) (l s : Nat) : tn_k x (la_mk x l s) := by
  unfold la_mk
  split <;> exact ⟨rfl, rfl, rfl⟩
theorem tn_k_wr (x : zSt) (l s : Nat) : tn_k x (la_wr x l s) := tn_k_mk x l s
theorem tn_k_tell (x : zSt) (l : Nat) : tn_k x (la_tell x l) := by
  unfold la_tell
  split
  · exact tn_k_wr x _ _
  · split
    · exact tn_k_wr (la_push x l (-2)) _ _
    · exact ⟨rfl, rfl, rfl⟩
theorem tn_k_s (x : zSt) (u : Int32) (n : Nat) : tn_k x (tn_s x u n) := by
  unfold tn_s
  split
  · exact ⟨rfl, rfl, rfl⟩
  · split
    · exact ⟨rfl, rfl, rfl⟩
    · exact tn_k_tell (fmn x u (nI n)) _
theorem tn_k_n (x : zSt) (u : Int32) : ∀ n, tn_k x (tn x u n)
  | 0 => ⟨rfl, rfl, rfl⟩
  | n + 1 => by
    have h1 := tn_k_n x u n
    have h2 := tn_k_s (tn x u n) u n
    exact ⟨h2.1.trans h1.1, h2.2.1.trans h1.2.1, h2.2.2.trans h1.2.2⟩
theorem tn_c_mono (x : zSt) (u : Int32) : ∀ n m, n ≤ m → tn_c x u n ≤ tn_c x u m := by
  intro n m h
  induction h with
  | refl => exact Nat.le_refl _
  | step _ ih => exact Nat.le_trans ih (by simp only [tn_c]; omega)
def T_WR_tellNeighbours (As : List zAV) (M : zMp) (Rt : Option zAV → zMp → Prop) (c1 c2 : Nat) : Prop := ∃ x u, As = [.inr (0, 0, 0), .inl (.int u)] ∧ M = pic x ∧ Iv x ∧ 2 * tn_c x u (x_dk x) ≤ c1 ∧ 6 * tn_c x u (x_dk x) ≤ c2 ∧ Rt none (pic (tn x u (x_dk x)))
theorem dX6_tellNeighbours_0 : decode cX6_tellNeighbours 0 = .ok (.iconst 0, 1) := by decide +kernel
theorem dX6_tellNeighbours_1 : decode cX6_tellNeighbours 1 = .ok (.istore_n 2, 1) := by decide +kernel
theorem dX6_tellNeighbours_2 : decode cX6_tellNeighbours 2 = .ok (.iload_n 2, 1) := by decide +kernel
theorem dX6_tellNeighbours_3 : decode cX6_tellNeighbours 3 = .ok (.aload_n 0, 1) := by decide +kernel
theorem dX6_tellNeighbours_4 : decode cX6_tellNeighbours 4 = .ok (.getfield 53, 3) := by decide +kernel
theorem dX6_tellNeighbours_7 : decode cX6_tellNeighbours 7 = .ok (.if_icmp .ge 48, 3) := by decide +kernel
theorem dX6_tellNeighbours_10 : decode cX6_tellNeighbours 10 = .ok (.aload_n 0, 1) := by decide +kernel
theorem dX6_tellNeighbours_11 : decode cX6_tellNeighbours 11 = .ok (.iload_n 1, 1) := by decide +kernel
theorem dX6_tellNeighbours_12 : decode cX6_tellNeighbours 12 = .ok (.iload_n 2, 1) := by decide +kernel
theorem dX6_tellNeighbours_13 : decode cX6_tellNeighbours 13 = .ok (.invokevirtual 89, 3) := by decide +kernel
theorem dX6_tellNeighbours_16 : decode cX6_tellNeighbours 16 = .ok (.astore_n 3, 1) := by decide +kernel
theorem dX6_tellNeighbours_17 : decode cX6_tellNeighbours 17 = .ok (.aload_n 3, 1) := by decide +kernel
theorem dX6_tellNeighbours_18 : decode cX6_tellNeighbours 18 = .ok (.ifnull 31, 3) := by decide +kernel
theorem dX6_tellNeighbours_21 : decode cX6_tellNeighbours 21 = .ok (.aload_n 0, 1) := by decide +kernel
theorem dX6_tellNeighbours_22 : decode cX6_tellNeighbours 22 = .ok (.iload_n 1, 1) := by decide +kernel
theorem dX6_tellNeighbours_23 : decode cX6_tellNeighbours 23 = .ok (.iload_n 2, 1) := by decide +kernel
theorem dX6_tellNeighbours_24 : decode cX6_tellNeighbours 24 = .ok (.invokevirtual 243, 3) := by decide +kernel
theorem dX6_tellNeighbours_27 : decode cX6_tellNeighbours 27 = .ok (.aload_n 0, 1) := by decide +kernel
theorem dX6_tellNeighbours_28 : decode cX6_tellNeighbours 28 = .ok (.getfield 42, 3) := by decide +kernel
theorem dX6_tellNeighbours_31 : decode cX6_tellNeighbours 31 = .ok (.aload_n 3, 1) := by decide +kernel
theorem dX6_tellNeighbours_32 : decode cX6_tellNeighbours 32 = .ok (.getfield 188, 3) := by decide +kernel
theorem dX6_tellNeighbours_35 : decode cX6_tellNeighbours 35 = .ok (.invokevirtual 246, 3) := by decide +kernel
theorem dX6_tellNeighbours_38 : decode cX6_tellNeighbours 38 = .ok (.ifCond .ne 11, 3) := by decide +kernel
theorem dX6_tellNeighbours_41 : decode cX6_tellNeighbours 41 = .ok (.aload_n 3, 1) := by decide +kernel
theorem dX6_tellNeighbours_42 : decode cX6_tellNeighbours 42 = .ok (.aload_n 0, 1) := by decide +kernel
theorem dX6_tellNeighbours_43 : decode cX6_tellNeighbours 43 = .ok (.getfield 42, 3) := by decide +kernel
theorem dX6_tellNeighbours_46 : decode cX6_tellNeighbours 46 = .ok (.invokevirtual 250, 3) := by decide +kernel
theorem dX6_tellNeighbours_49 : decode cX6_tellNeighbours 49 = .ok (.iinc 2 1, 3) := by decide +kernel
theorem dX6_tellNeighbours_52 : decode cX6_tellNeighbours 52 = .ok (.goto (-50), 3) := by decide +kernel
theorem dX6_tellNeighbours_55 : decode cX6_tellNeighbours 55 = .ok (.return_, 1) := by decide +kernel
def B_WR_tellNeighbours_55 (mc ms : Nat) (Rt : Option zAV → zMp → Prop) (g : Nat → zKT) : zKT :=
  (i_vret mc ms Rt)
set_option maxRecDepth 20000 in
theorem s_WR_tellNeighbours_55 {X : zMa} {mc ms : Nat} {Rt : Option zAV → zMp → Prop} (hC : zCx X RX6 cX6_tellNeighbours 5 111 mc ms (none) false Rt) (hN : zNL X = 4) : zLe (B_WR_tellNeighbours_55 mc ms Rt (zG X)) (zG X 55) :=
  (sd_vret hC dX6_tellNeighbours_55)
def B_WR_tellNeighbours_49 (mc ms : Nat) (Rt : Option zAV → zMp → Prop) (g : Nat → zKT) : zKT :=
  (i_inc 2 1 (g 2))
set_option maxRecDepth 20000 in
theorem s_WR_tellNeighbours_49 {X : zMa} {mc ms : Nat} {Rt : Option zAV → zMp → Prop} (hC : zCx X RX6 cX6_tellNeighbours 5 111 mc ms (none) false Rt) (hN : zNL X = 4) : zLe (B_WR_tellNeighbours_49 mc ms Rt (zG X)) (zG X 49) :=
  (sd_inc hC (by decide) (by rw [hN]; decide) dX6_tellNeighbours_49 ((sd_goto hC (tgt := 2) (by decide) dX6_tellNeighbours_52 (zLe_rfl))))
def B_WR_tellNeighbours_2 (mc ms : Nat) (Rt : Option zAV → zMp → Prop) (g : Nat → zKT) : zKT :=
  (i_il 2 (i_al 0 (i_gf 7 9 (i_icge (B_WR_tellNeighbours_55 mc ms Rt g) (i_al 0 (i_il 1 (i_il 2 (i_callV mc ms 7 3 T_WR_laneFrom co_WR_laneFrom (i_as 3 (i_al 3 (i_ifn (B_WR_tellNeighbours_49 mc ms Rt g) (i_al 0 (i_il 1 (i_il 2 (i_callV mc ms 7 3 T_WR_findMeant co_WR_findMeant (i_al 0 (i_gf 7 7 (i_al 3 (i_gf 2 0 (i_callV mc ms 5 2 T_Row_sameAs co_Row_sameAs (i_ifne (B_WR_tellNeighbours_49 mc ms Rt g) (i_al 3 (i_al 0 (i_gf 7 7 (i_callV2 mc ms 2 2 T_Lane_putTell (B_WR_tellNeighbours_49 mc ms Rt g))))))))))))))))))))))))))
set_option maxRecDepth 20000 in
theorem s_WR_tellNeighbours_2 {X : zMa} {mc ms : Nat} {Rt : Option zAV → zMp → Prop} (hC : zCx X RX6 cX6_tellNeighbours 5 111 mc ms (none) false Rt) (hN : zNL X = 4) : zLe (B_WR_tellNeighbours_2 mc ms Rt (zG X)) (zG X 2) :=
  (sd_il_n hC rfl dX6_tellNeighbours_2 ((sd_al_n hC rfl dX6_tellNeighbours_3 ((sd_gf hC (ci := 7) (fk := 9) rfl wi_WR (by decide) fl_WR_53 (Or.inl rfl) dX6_tellNeighbours_4 ((sd_icge hC (tgt := 55) (by decide) dX6_tellNeighbours_7 (s_WR_tellNeighbours_55 hC hN) ((sd_al_n hC rfl dX6_tellNeighbours_10 ((sd_il_n hC rfl dX6_tellNeighbours_11 ((sd_il_n hC rfl dX6_tellNeighbours_12 ((sd_cV hC c_WR_laneFrom yv_WR_laneFrom (ci := 7) rfl rfl ml_WR_89 (by decide) (by decide) dX6_tellNeighbours_13 ((sd_as_n hC rfl (by rw [hN]; decide) dX6_tellNeighbours_16 ((sd_al_n hC rfl dX6_tellNeighbours_17 ((sd_ifnull hC (tgt := 49) (by decide) dX6_tellNeighbours_18 (s_WR_tellNeighbours_49 hC hN) ((sd_al_n hC rfl dX6_tellNeighbours_21 ((sd_il_n hC rfl dX6_tellNeighbours_22 ((sd_il_n hC rfl dX6_tellNeighbours_23 ((sd_cV hC c_WR_findMeant yv_WR_findMeant (ci := 7) rfl rfl ml_WR_243 (by decide) (by decide) dX6_tellNeighbours_24 ((sd_al_n hC rfl dX6_tellNeighbours_27 ((sd_gf hC (ci := 7) (fk := 7) rfl wi_WR (by decide) fl_WR_42 (Or.inl rfl) dX6_tellNeighbours_28 ((sd_al_n hC rfl dX6_tellNeighbours_31 ((sd_gf hC (ci := 2) (fk := 0) rfl wi_Lane (by decide) fl_WR_188 (Or.inl rfl) dX6_tellNeighbours_32 ((sd_cV hC c_Row_sameAs yv_Row_sameAs (ci := 5) rfl rfl ml_WR_246 (by decide) (by decide) dX6_tellNeighbours_35 ((sd_ifne hC (tgt := 49) (by decide) dX6_tellNeighbours_38 (s_WR_tellNeighbours_49 hC hN) ((sd_al_n hC rfl dX6_tellNeighbours_41 ((sd_al_n hC rfl dX6_tellNeighbours_42 ((sd_gf hC (ci := 7) (fk := 7) rfl wi_WR (by decide) fl_WR_42 (Or.inl rfl) dX6_tellNeighbours_43 ((sd_cV2 hC c_Lane_putTell yv_Lane_putTell (ci := 2) rfl rfl ml_WR_250 (by decide) (by decide) dX6_tellNeighbours_46 (s_WR_tellNeighbours_49 hC hN))))))))))))))))))))))))))))))))))))))))))))))))))
def B_WR_tellNeighbours_0 (mc ms : Nat) (Rt : Option zAV → zMp → Prop) (g : Nat → zKT) : zKT :=
  (i_ic 0 (i_is 2 (g 2)))
set_option maxRecDepth 20000 in
theorem s_WR_tellNeighbours_0 {X : zMa} {mc ms : Nat} {Rt : Option zAV → zMp → Prop} (hC : zCx X RX6 cX6_tellNeighbours 5 111 mc ms (none) false Rt) (hN : zNL X = 4) : zLe (B_WR_tellNeighbours_0 mc ms Rt (zG X)) (zG X 0) :=
  (sd_iconst hC (by decide) dX6_tellNeighbours_0 ((sd_is_n hC rfl (by rw [hN]; decide) dX6_tellNeighbours_1 (zLe_rfl))))
theorem c_WR_tellNeighbours (l : Launch) : zCT2 l yX6_tellNeighbours cX6_tellNeighbours 4 (none) 5 111 T_WR_tellNeighbours := by
  intro As M Rt c1 c2 hT
  obtain ⟨x, u, rfl, rfl, hI, hc1, hc2, hR⟩ := hT
  have hd := hI.dk
  refine zMet_of false (by decide +kernel) (fun h => by first | rfl | cases h) (Nat.le_of_ble_eq_true rfl) (fun X hN hC => ?_)
  show zG X 0 [some (.inr (0, 0, 0)), some (.inl (.int u)), none, none] [] (pic x) 0 0
  have loop := upto (N := x_dk x) (P := fun i => ∀ j3 : Option zAV, zG X 2 [some (.inr (0, 0, 0)), some (.inl (.int u)), some (.inl (.int (nI i))), j3] [] (pic (tn x u i)) (2 * tn_c x u i) (6 * tn_c x u i)) (fun i hi ih j3 => by
    have hIy := Iv_tn (u := u) hI i
    have hk := tn_k_n x u i
    have hm1 := tn_c_mono x u (i + 1) (x_dk x) hi
    have hm0 : tn_c x u i ≤ tn_c x u (i + 1) := tn_c_mono x u i (i + 1) (Nat.le_succ _)
    simp only [tn, tn_c] at ih hm1 hm0
    generalize hy : tn x u i = y at ih hIy hk hm1 hm0
    generalize hcc : tn_c x u i = cc at ih hm1 hm0
    refine s_WR_tellNeighbours_2 hC hN _ _ _ _ _ ?_
    simp only [B_WR_tellNeighbours_0, B_WR_tellNeighbours_2, B_WR_tellNeighbours_49, B_WR_tellNeighbours_55, co_Row_sameAs, co_WR_findMeant, co_WR_laneFrom, i_ic, i_lc, i_nul, i_il, i_ll, i_al, i_is, i_as, i_ls, i_inc, i_iadd, i_isub, i_imul, i_iand, i_ior, i_ixor, i_idiv, i_irem, i_ishl, i_ishr, i_ladd, i_lsub, i_land, i_lor, i_i2l, i_lushr, i_lshl, i_lshr, i_lcmp, i_dup, i_pop, i_dx1, i_dup2, i_ifeq, i_ifne, i_iflt, i_ifge, i_ifgt, i_ifle, i_iceq, i_icne, i_iclt, i_icge, i_icgt, i_icle, i_ifn, i_gf, i_pf, i_ial, i_bal, i_lal, i_aal, i_ias, i_las, i_bas, i_aas, i_alen, i_newa, i_new, i_anew, i_cast, i_oi, i_call, i_callV, i_callV2, i_callI, i_iret, i_zret, i_lret, i_vret, i_aret, i_mmx, i_mmn, i_gsE, i_aceq, i_no, i_acq, i_sw, zsw, zlg, zls, znl, zfg, zcs, zsp, zrc, zisn, zft, zc1, zto, Value.category, List.set_cons_zero, List.set_cons_succ, List.length_cons, List.length_nil, Option.toList, List.append, List.nil_append, List.cons_append, true_and, and_true, Nat.add_zero, Nat.zero_le, Nat.zero_add, Nat.le_refl, Nat.reduceAdd, Nat.reduceLeDiff, co0, z0, zn_0, zn_1, zn_2, zn_3, zn_4, zn_5, zn_8, zn_12, zn_24, zn_121, zn_144, zn_256, zn_300, zn_600, zn_720, zn_1204, zn_1280, zn_2400, zn_4816, zn_14400, zn_90000, p_main, x_main]
    rw [hk.1]
    refine ⟨fun h => absurd ((zK (K := x_dk x) (by omega) (n := i) (by omega)).2.1.mp h) (by omega), fun _ => ⟨by omega, by omega, y, u, nI i, rfl, rfl, by rw [hk.1]; exact hd, ?_⟩⟩
    rcases lnF_c hIy u (nI i) with e | ⟨q, e, hok⟩
    · rw [e]
      simp only [zln, Option.map_none, zov, i_ic, i_lc, i_nul, i_il, i_ll, i_al, i_is, i_as, i_ls, i_inc, i_iadd, i_isub, i_imul, i_iand, i_ior, i_ixor, i_idiv, i_irem, i_ishl, i_ishr, i_ladd, i_lsub, i_land, i_lor, i_i2l, i_lushr, i_lshl, i_lshr, i_lcmp, i_dup, i_pop, i_dx1, i_dup2, i_ifeq, i_ifne, i_iflt, i_ifge, i_ifgt, i_ifle, i_iceq, i_icne, i_iclt, i_icge, i_icgt, i_icle, i_ifn, i_gf, i_pf, i_ial, i_bal, i_lal, i_aal, i_ias, i_las, i_bas, i_aas, i_alen, i_newa, i_new, i_anew, i_cast, i_oi, i_call, i_callV, i_callV2, i_callI, i_iret, i_zret, i_lret, i_vret, i_aret, i_mmx, i_mmn, i_gsE, i_aceq, i_no, i_acq, i_sw, zsw, zlg, zls, znl, zfg, zcs, zsp, zrc, zisn, zft, zc1, zto, Value.category, List.set_cons_zero, List.set_cons_succ, List.length_cons, List.length_nil, Option.toList, List.append, List.nil_append, List.cons_append, true_and, and_true, Nat.add_zero, Nat.zero_le, Nat.zero_add, Nat.le_refl, Nat.reduceAdd, Nat.reduceLeDiff, co0, z0, zn_0, zn_1, zn_2, zn_3, zn_4, zn_5, zn_8, zn_12, zn_24, zn_121, zn_144, zn_256, zn_300, zn_600, zn_720, zn_1204, zn_1280, zn_2400, zn_4816, zn_14400, zn_90000]
      rw [nI_1]
      have hw : zd (tn_w y u i) = false := zd_f (fun ⟨l, h, _⟩ => by rw [e] at h; cases h)
      simp only [tn_s, e, hw, Bool.false_eq_true, if_false, Nat.add_zero] at ih
      exact ih _
    · rw [e]
      have hok' : ln_ok (fmn y u (nI i)) q := hok
      simp only [zln, Option.map_some, zov, p_main, x_main, i_ic, i_lc, i_nul, i_il, i_ll, i_al, i_is, i_as, i_ls, i_inc, i_iadd, i_isub, i_imul, i_iand, i_ior, i_ixor, i_idiv, i_irem, i_ishl, i_ishr, i_ladd, i_lsub, i_land, i_lor, i_i2l, i_lushr, i_lshl, i_lshr, i_lcmp, i_dup, i_pop, i_dx1, i_dup2, i_ifeq, i_ifne, i_iflt, i_ifge, i_ifgt, i_ifle, i_iceq, i_icne, i_iclt, i_icge, i_icgt, i_icle, i_ifn, i_gf, i_pf, i_ial, i_bal, i_lal, i_aal, i_ias, i_las, i_bas, i_aas, i_alen, i_newa, i_new, i_anew, i_cast, i_oi, i_call, i_callV, i_callV2, i_callI, i_iret, i_zret, i_lret, i_vret, i_aret, i_mmx, i_mmn, i_gsE, i_aceq, i_no, i_acq, i_sw, zsw, zlg, zls, znl, zfg, zcs, zsp, zrc, zisn, zft, zc1, zto, Value.category, List.set_cons_zero, List.set_cons_succ, List.length_cons, List.length_nil, Option.toList, List.append, List.nil_append, List.cons_append, true_and, and_true, Nat.add_zero, Nat.zero_le, Nat.zero_add, Nat.le_refl, Nat.reduceAdd, Nat.reduceLeDiff, co0, z0, zn_0, zn_1, zn_2, zn_3, zn_4, zn_5, zn_8, zn_12, zn_24, zn_121, zn_144, zn_256, zn_300, zn_600, zn_720, zn_1204, zn_1280, zn_2400, zn_4816, zn_14400, zn_90000]
      refine ⟨by omega, by omega, y, u, nI i, rfl, rfl, hIy, ?_⟩
      simp only [p_main, x_main, p_lane hok'.1, x_lane, p_rowO (r_me _), i_ic, i_lc, i_nul, i_il, i_ll, i_al, i_is, i_as, i_ls, i_inc, i_iadd, i_isub, i_imul, i_iand, i_ior, i_ixor, i_idiv, i_irem, i_ishl, i_ishr, i_ladd, i_lsub, i_land, i_lor, i_i2l, i_lushr, i_lshl, i_lshr, i_lcmp, i_dup, i_pop, i_dx1, i_dup2, i_ifeq, i_ifne, i_iflt, i_ifge, i_ifgt, i_ifle, i_iceq, i_icne, i_iclt, i_icge, i_icgt, i_icle, i_ifn, i_gf, i_pf, i_ial, i_bal, i_lal, i_aal, i_ias, i_las, i_bas, i_aas, i_alen, i_newa, i_new, i_anew, i_cast, i_oi, i_call, i_callV, i_callV2, i_callI, i_iret, i_zret, i_lret, i_vret, i_aret, i_mmx, i_mmn, i_gsE, i_aceq, i_no, i_acq, i_sw, zsw, zlg, zls, znl, zfg, zcs, zsp, zrc, zisn, zft, zc1, zto, Value.category, List.set_cons_zero, List.set_cons_succ, List.length_cons, List.length_nil, Option.toList, List.append, List.nil_append, List.cons_append, true_and, and_true, Nat.add_zero, Nat.zero_le, Nat.zero_add, Nat.le_refl, Nat.reduceAdd, Nat.reduceLeDiff, co0, z0, zn_0, zn_1, zn_2, zn_3, zn_4, zn_5, zn_8, zn_12, zn_24, zn_121, zn_144, zn_256, zn_300, zn_600, zn_720, zn_1204, zn_1280, zn_2400, zn_4816, zn_14400, zn_90000]
      refine ⟨by omega, by omega, (5, 0, 1), (6, 0, 1), _, (5, 2, q), (6, 2, q), _, rfl, p_row (r_me _), p_row (r_lt hok'.1), ?_⟩
      have elt : x_lt (fmn y u (nI i)) = x_lt y := rfl
      rw [elt]
      simp only [p_main, x_main, p_lane hok'.1, x_lane, i_ic, i_lc, i_nul, i_il, i_ll, i_al, i_is, i_as, i_ls, i_inc, i_iadd, i_isub, i_imul, i_iand, i_ior, i_ixor, i_idiv, i_irem, i_ishl, i_ishr, i_ladd, i_lsub, i_land, i_lor, i_i2l, i_lushr, i_lshl, i_lshr, i_lcmp, i_dup, i_pop, i_dx1, i_dup2, i_ifeq, i_ifne, i_iflt, i_ifge, i_ifgt, i_ifle, i_iceq, i_icne, i_iclt, i_icge, i_icgt, i_icle, i_ifn, i_gf, i_pf, i_ial, i_bal, i_lal, i_aal, i_ias, i_las, i_bas, i_aas, i_alen, i_newa, i_new, i_anew, i_cast, i_oi, i_call, i_callV, i_callV2, i_callI, i_iret, i_zret, i_lret, i_vret, i_aret, i_mmx, i_mmn, i_gsE, i_aceq, i_no, i_acq, i_sw, zsw, zlg, zls, znl, zfg, zcs, zsp, zrc, zisn, zft, zc1, zto, Value.category, List.set_cons_zero, List.set_cons_succ, List.length_cons, List.length_nil, Option.toList, List.append, List.nil_append, List.cons_append, true_and, and_true, Nat.add_zero, Nat.zero_le, Nat.zero_add, Nat.le_refl, Nat.reduceAdd, Nat.reduceLeDiff, co0, z0, zn_0, zn_1, zn_2, zn_3, zn_4, zn_5, zn_8, zn_12, zn_24, zn_121, zn_144, zn_256, zn_300, zn_600, zn_720, zn_1204, zn_1280, zn_2400, zn_4816, zn_14400, zn_90000]
      rw [nI_1]
      cases hs : rw_same (x_me (fmn y u (nI i))) (x_lt y q) with
      | true =>
        have hw : zd (tn_w y u i) = false := zd_f (fun ⟨l, h, h2, _⟩ => by
          rw [e] at h; cases h; rw [hs] at h2; cases h2)
        simp only [tn_s, e, hs, hw, Bool.false_eq_true, if_true, if_false, Nat.add_zero] at ih
        exact ⟨fun _ => ih _, fun h => absurd h (by decide)⟩
      | false =>
        simp only [tn_s, e, hs, Bool.false_eq_true, if_false] at ih
        refine ⟨fun h => absurd rfl h, fun _ => ?_⟩
        refine ⟨2 * (if zd (tn_w y u i) = true then 1 else 0), 6 * (if zd (tn_w y u i) = true then 1 else 0), by omega, by omega, fmn y u (nI i), q, rfl, rfl, hok', fun hnw => ?_, ?_⟩
        · rw [if_pos (zd_t ⟨q, e, hs, hnw⟩)]
          decide
        · rw [Nat.mul_add, Nat.mul_add] at ih
          exact ih _) (fun j3 => by
    have hk := tn_k_n x u (x_dk x)
    refine s_WR_tellNeighbours_2 hC hN _ _ _ _ _ ?_
    simp only [B_WR_tellNeighbours_0, B_WR_tellNeighbours_2, B_WR_tellNeighbours_49, B_WR_tellNeighbours_55, co_Row_sameAs, co_WR_findMeant, co_WR_laneFrom, i_ic, i_lc, i_nul, i_il, i_ll, i_al, i_is, i_as, i_ls, i_inc, i_iadd, i_isub, i_imul, i_iand, i_ior, i_ixor, i_idiv, i_irem, i_ishl, i_ishr, i_ladd, i_lsub, i_land, i_lor, i_i2l, i_lushr, i_lshl, i_lshr, i_lcmp, i_dup, i_pop, i_dx1, i_dup2, i_ifeq, i_ifne, i_iflt, i_ifge, i_ifgt, i_ifle, i_iceq, i_icne, i_iclt, i_icge, i_icgt, i_icle, i_ifn, i_gf, i_pf, i_ial, i_bal, i_lal, i_aal, i_ias, i_las, i_bas, i_aas, i_alen, i_newa, i_new, i_anew, i_cast, i_oi, i_call, i_callV, i_callV2, i_callI, i_iret, i_zret, i_lret, i_vret, i_aret, i_mmx, i_mmn, i_gsE, i_aceq, i_no, i_acq, i_sw, zsw, zlg, zls, znl, zfg, zcs, zsp, zrc, zisn, zft, zc1, zto, Value.category, List.set_cons_zero, List.set_cons_succ, List.length_cons, List.length_nil, Option.toList, List.append, List.nil_append, List.cons_append, true_and, and_true, Nat.add_zero, Nat.zero_le, Nat.zero_add, Nat.le_refl, Nat.reduceAdd, Nat.reduceLeDiff, co0, z0, zn_0, zn_1, zn_2, zn_3, zn_4, zn_5, zn_8, zn_12, zn_24, zn_121, zn_144, zn_256, zn_300, zn_600, zn_720, zn_1204, zn_1280, zn_2400, zn_4816, zn_14400, zn_90000, p_main, x_main]
    rw [hk.1]
    exact ⟨fun _ => ⟨hc1, hc2, hR⟩, fun h => absurd ((zK (K := x_dk x) (by omega) (n := x_dk x) (by omega)).2.1.mpr (Nat.le_refl _)) h⟩) 0 (Nat.zero_le _)
  refine s_WR_tellNeighbours_0 hC hN _ _ _ _ _ ?_
  simp only [B_WR_tellNeighbours_0, B_WR_tellNeighbours_2, B_WR_tellNeighbours_49, B_WR_tellNeighbours_55, co_Row_sameAs, co_WR_findMeant, co_WR_laneFrom, i_ic, i_lc, i_nul, i_il, i_ll, i_al, i_is, i_as, i_ls, i_inc, i_iadd, i_isub, i_imul, i_iand, i_ior, i_ixor, i_idiv, i_irem, i_ishl, i_ishr, i_ladd, i_lsub, i_land, i_lor, i_i2l, i_lushr, i_lshl, i_lshr, i_lcmp, i_dup, i_pop, i_dx1, i_dup2, i_ifeq, i_ifne, i_iflt, i_ifge, i_ifgt, i_ifle, i_iceq, i_icne, i_iclt, i_icge, i_icgt, i_icle, i_ifn, i_gf, i_pf, i_ial, i_bal, i_lal, i_aal, i_ias, i_las, i_bas, i_aas, i_alen, i_newa, i_new, i_anew, i_cast, i_oi, i_call, i_callV, i_callV2, i_callI, i_iret, i_zret, i_lret, i_vret, i_aret, i_mmx, i_mmn, i_gsE, i_aceq, i_no, i_acq, i_sw, zsw, zlg, zls, znl, zfg, zcs, zsp, zrc, zisn, zft, zc1, zto, Value.category, List.set_cons_zero, List.set_cons_succ, List.length_cons, List.length_nil, Option.toList, List.append, List.nil_append, List.cons_append, true_and, and_true, Nat.add_zero, Nat.zero_le, Nat.zero_add, Nat.le_refl, Nat.reduceAdd, Nat.reduceLeDiff, co0, z0, zn_0, zn_1, zn_2, zn_3, zn_4, zn_5, zn_8, zn_12, zn_24, zn_121, zn_144, zn_256, zn_300, zn_600, zn_720, zn_1204, zn_1280, zn_2400, zn_4816, zn_14400, zn_90000]
  exact loop _
