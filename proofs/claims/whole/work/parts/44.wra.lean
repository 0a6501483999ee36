/-! WishRoutes: delivering the first message of a lane -/
theorem Iv_take {x : zSt} {l : Nat} (h : Iv x) (hl : x_lz x l ≤ 121) : Iv (la_take x l) := by
  have h1 : Iv (la_take1 x l) := by
    unfold la_take1
    split
    · exact Iv_lb (Iv_mk h)
    · exact h
  have h2 : Iv (u_lf (la_take1 x l) (va_up (x_lf x) l ((x_lf x l + 1) % 121))) := by
    rw [← lf_take1 x l]
    exact Iv_lf h1 (Nat.mod_lt _ (by decide))
  have e : x_lz x = x_lz (u_lf (la_take1 x l) (va_up (x_lf x) l ((x_lf x l + 1) % 121))) := by rw [g_lz_lf, lz_take1]
  unfold la_take
  have h3 := Iv_lz (l := l) (v := x_lz x l - 1) h2 (by omega)
  rw [← e] at h3
  exact h3
noncomputable def df3 (y : zSt) (k : Nat) (u v : Int32) : zSt := if inm (x_nv y k) v = true then u_nm y (va_up (x_nm y) k (x_nm y k - 1)) else po (lh (u_nm y (va_up (x_nm y) k (x_nm y k - 1))) k v (x_nw y)) k v u (x_dk (lh (u_nm y (va_up (x_nm y) k (x_nm y k - 1))) k v (x_nw y)))
def df_t (y : zSt) : zSt := u_td y (x_td y + 1)
noncomputable def df2 (y : zSt) (u v it : Int32) : zSt := if it = -2 then tn (df_t y) v (x_dk y) else if isn (x_nn y) it = true then df3 y it.toNatClampNeg u v else y
def df_it (x : zSt) (l : Nat) : Int32 := if x_lz x l = 0 then -1 else x_li x l (x_lf x l)
def df_y (x : zSt) (l : Nat) : zSt := if x_lz x l = 0 then x else la_take x l
noncomputable def df (x : zSt) (u v : Int32) : zSt := match lnF x u v with
  | none => df2 x u v (-1)
  | some l => df2 (df_y x l) u v (df_it x l)
noncomputable def df_c (x : zSt) (u v : Int32) : Nat := match lnF x u v with
  | none => 0
  | some l => if df_it x l = -2 then tn_c (df_t (df_y x l)) v (x_dk (df_y x l)) else 0
/-- the rows of tells that come first are there -/
def df_ok (x : zSt) (u v : Int32) : Prop := ∀ l, lnF x u v = some l → x_lz x l ≠ 0 → x_li x l (x_lf x l) = -2 → x_lr x l (x_lf x l) ≠ none
theorem Iv_df3 {y : zSt} {k : Nat} {u v : Int32} (h : Iv y) : Iv (df3 y k u v) := by
  unfold df3
  split
  · exact Iv_nm h
  · exact Iv_pon (Iv_lh (Iv_nm h) _) _
theorem Iv_df2 {y : zSt} {u v it : Int32} (h : Iv y) : Iv (df2 y u v it) := by
  unfold df2
  split
  · exact Iv_tn (x := df_t y) (Iv_td h) _
  · split
    · exact Iv_df3 h
    · exact h
theorem Iv_dfy {x : zSt} {l : Nat} (h : Iv x) (hl : x_lz x l ≤ 121) : Iv (df_y x l) := by
  unfold df_y
  split
  · exact h
  · exact Iv_take h hl
theorem Iv_df {x : zSt} {u v : Int32} (h : Iv x) : Iv (df x u v) := by
  unfold df
  rcases lnF_c h u v with e | ⟨l, e, hok⟩
  · rw [e]; exact Iv_df2 h
  · rw [e]; exact Iv_df2 (Iv_dfy h hok.2.1)
def T_WR_deliverFirst (As : List zAV) (M : zMp) (Rt : Option zAV → zMp → Prop) (c1 c2 : Nat) : Prop := ∃ x u v, As = [.inr (0, 0, 0), .inl (.int u), .inl (.int v)] ∧ M = pic x ∧ Iv x ∧ df_ok x u v ∧ 2 * df_c x u v ≤ c1 ∧ 6 * df_c x u v ≤ c2 ∧ Rt none (pic (df x u v))
theorem dX6_deliverFirst_0 : decode cX6_deliverFirst 0 = .ok (.aload_n 0, 1) := by decide +kernel
theorem dX6_deliverFirst_1 : decode cX6_deliverFirst 1 = .ok (.iload_n 1, 1) := by decide +kernel
theorem dX6_deliverFirst_2 : decode cX6_deliverFirst 2 = .ok (.iload_n 2, 1) := by decide +kernel
theorem dX6_deliverFirst_3 : decode cX6_deliverFirst 3 = .ok (.invokevirtual 89, 3) := by decide +kernel
theorem dX6_deliverFirst_6 : decode cX6_deliverFirst 6 = .ok (.astore_n 3, 1) := by decide +kernel
theorem dX6_deliverFirst_7 : decode cX6_deliverFirst 7 = .ok (.aload_n 3, 1) := by decide +kernel
theorem dX6_deliverFirst_8 : decode cX6_deliverFirst 8 = .ok (.ifnonnull 7, 3) := by decide +kernel
theorem dX6_deliverFirst_11 : decode cX6_deliverFirst 11 = .ok (.iconst (-1), 1) := by decide +kernel
theorem dX6_deliverFirst_12 : decode cX6_deliverFirst 12 = .ok (.goto 7, 3) := by decide +kernel
theorem dX6_deliverFirst_15 : decode cX6_deliverFirst 15 = .ok (.aload_n 3, 1) := by decide +kernel
theorem dX6_deliverFirst_16 : decode cX6_deliverFirst 16 = .ok (.invokevirtual 267, 3) := by decide +kernel
theorem dX6_deliverFirst_19 : decode cX6_deliverFirst 19 = .ok (.istore 4, 2) := by decide +kernel
theorem dX6_deliverFirst_21 : decode cX6_deliverFirst 21 = .ok (.iload 4, 2) := by decide +kernel
theorem dX6_deliverFirst_23 : decode cX6_deliverFirst 23 = .ok (.bipush (-2), 2) := by decide +kernel
theorem dX6_deliverFirst_25 : decode cX6_deliverFirst 25 = .ok (.if_icmp .ne 19, 3) := by decide +kernel
theorem dX6_deliverFirst_28 : decode cX6_deliverFirst 28 = .ok (.aload_n 0, 1) := by decide +kernel
theorem dX6_deliverFirst_29 : decode cX6_deliverFirst 29 = .ok (.dup, 1) := by decide +kernel
theorem dX6_deliverFirst_30 : decode cX6_deliverFirst 30 = .ok (.getfield 66, 3) := by decide +kernel
theorem dX6_deliverFirst_33 : decode cX6_deliverFirst 33 = .ok (.iconst 1, 1) := by decide +kernel
theorem dX6_deliverFirst_34 : decode cX6_deliverFirst 34 = .ok (.iadd, 1) := by decide +kernel
theorem dX6_deliverFirst_35 : decode cX6_deliverFirst 35 = .ok (.putfield 66, 3) := by decide +kernel
theorem dX6_deliverFirst_38 : decode cX6_deliverFirst 38 = .ok (.aload_n 0, 1) := by decide +kernel
theorem dX6_deliverFirst_39 : decode cX6_deliverFirst 39 = .ok (.iload_n 2, 1) := by decide +kernel
theorem dX6_deliverFirst_40 : decode cX6_deliverFirst 40 = .ok (.invokevirtual 85, 3) := by decide +kernel
theorem dX6_deliverFirst_43 : decode cX6_deliverFirst 43 = .ok (.return_, 1) := by decide +kernel
theorem dX6_deliverFirst_44 : decode cX6_deliverFirst 44 = .ok (.aload_n 0, 1) := by decide +kernel
theorem dX6_deliverFirst_45 : decode cX6_deliverFirst 45 = .ok (.iload 4, 2) := by decide +kernel
theorem dX6_deliverFirst_47 : decode cX6_deliverFirst 47 = .ok (.invokevirtual 197, 3) := by decide +kernel
theorem dX6_deliverFirst_50 : decode cX6_deliverFirst 50 = .ok (.astore 5, 2) := by decide +kernel
theorem dX6_deliverFirst_52 : decode cX6_deliverFirst 52 = .ok (.aload 5, 2) := by decide +kernel
theorem dX6_deliverFirst_54 : decode cX6_deliverFirst 54 = .ok (.ifnonnull 4, 3) := by decide +kernel
theorem dX6_deliverFirst_57 : decode cX6_deliverFirst 57 = .ok (.return_, 1) := by decide +kernel
theorem dX6_deliverFirst_58 : decode cX6_deliverFirst 58 = .ok (.aload 5, 2) := by decide +kernel
theorem dX6_deliverFirst_60 : decode cX6_deliverFirst 60 = .ok (.dup, 1) := by decide +kernel
theorem dX6_deliverFirst_61 : decode cX6_deliverFirst 61 = .ok (.getfield 205, 3) := by decide +kernel
theorem dX6_deliverFirst_64 : decode cX6_deliverFirst 64 = .ok (.iconst 1, 1) := by decide +kernel
theorem dX6_deliverFirst_65 : decode cX6_deliverFirst 65 = .ok (.isub, 1) := by decide +kernel
theorem dX6_deliverFirst_66 : decode cX6_deliverFirst 66 = .ok (.putfield 205, 3) := by decide +kernel
theorem dX6_deliverFirst_69 : decode cX6_deliverFirst 69 = .ok (.aload 5, 2) := by decide +kernel
theorem dX6_deliverFirst_71 : decode cX6_deliverFirst 71 = .ok (.getfield 270, 3) := by decide +kernel
theorem dX6_deliverFirst_74 : decode cX6_deliverFirst 74 = .ok (.iload_n 2, 1) := by decide +kernel
theorem dX6_deliverFirst_75 : decode cX6_deliverFirst 75 = .ok (.invokestatic 77, 3) := by decide +kernel
theorem dX6_deliverFirst_78 : decode cX6_deliverFirst 78 = .ok (.ifCond .ne 18, 3) := by decide +kernel
theorem dX6_deliverFirst_81 : decode cX6_deliverFirst 81 = .ok (.aload_n 0, 1) := by decide +kernel
theorem dX6_deliverFirst_82 : decode cX6_deliverFirst 82 = .ok (.aload 5, 2) := by decide +kernel
theorem dX6_deliverFirst_84 : decode cX6_deliverFirst 84 = .ok (.iload_n 2, 1) := by decide +kernel
theorem dX6_deliverFirst_85 : decode cX6_deliverFirst 85 = .ok (.invokevirtual 156, 3) := by decide +kernel
theorem dX6_deliverFirst_88 : decode cX6_deliverFirst 88 = .ok (.aload_n 0, 1) := by decide +kernel
theorem dX6_deliverFirst_89 : decode cX6_deliverFirst 89 = .ok (.aload 5, 2) := by decide +kernel
theorem dX6_deliverFirst_91 : decode cX6_deliverFirst 91 = .ok (.iload_n 2, 1) := by decide +kernel
theorem dX6_deliverFirst_92 : decode cX6_deliverFirst 92 = .ok (.iload_n 1, 1) := by decide +kernel
theorem dX6_deliverFirst_93 : decode cX6_deliverFirst 93 = .ok (.invokevirtual 160, 3) := by decide +kernel
theorem dX6_deliverFirst_96 : decode cX6_deliverFirst 96 = .ok (.return_, 1) := by decide +kernel
def B_WR_deliverFirst_96 (mc ms : Nat) (Rt : Option zAV → zMp → Prop) (g : Nat → zKT) : zKT :=
  (i_vret mc ms Rt)
set_option maxRecDepth 20000 in
theorem s_WR_deliverFirst_96 {X : zMa} {mc ms : Nat} {Rt : Option zAV → zMp → Prop} (hC : zCx X RX6 cX6_deliverFirst 6 134 mc ms (none) false Rt) (hN : zNL X = 6) : zLe (B_WR_deliverFirst_96 mc ms Rt (zG X)) (zG X 96) :=
  (sd_vret hC dX6_deliverFirst_96)
def B_WR_deliverFirst_58 (mc ms : Nat) (Rt : Option zAV → zMp → Prop) (g : Nat → zKT) : zKT :=
  (i_al 5 (i_dup (i_gf 3 3 (i_ic 1 (i_isub (i_pf 3 3 .int (i_al 5 (i_gf 3 4 (i_il 2 (i_call mc ms 2 T_WR_inMask co_WR_inMask (i_ifne (B_WR_deliverFirst_96 mc ms Rt g) (i_al 0 (i_al 5 (i_il 2 (i_callV mc ms 7 3 T_WR_letHear co_WR_letHear (i_al 0 (i_al 5 (i_il 2 (i_il 1 (i_callV mc ms 7 4 T_WR_passOn co_WR_passOn (B_WR_deliverFirst_96 mc ms Rt g)))))))))))))))))))))
set_option maxRecDepth 20000 in
theorem s_WR_deliverFirst_58 {X : zMa} {mc ms : Nat} {Rt : Option zAV → zMp → Prop} (hC : zCx X RX6 cX6_deliverFirst 6 134 mc ms (none) false Rt) (hN : zNL X = 6) : zLe (B_WR_deliverFirst_58 mc ms Rt (zG X)) (zG X 58) :=
  (sd_al hC dX6_deliverFirst_58 ((sd_dup hC dX6_deliverFirst_60 ((sd_gf hC (ci := 3) (fk := 3) rfl wi_Not (by decide) fl_WR_205 (Or.inl rfl) dX6_deliverFirst_61 ((sd_iconst hC (by decide) dX6_deliverFirst_64 ((sd_isub hC dX6_deliverFirst_65 ((sd_pf hC (ci := 3) (fk := 3) rfl wi_Not tyX2 tyX2_ok nmX2 (by decide) fl_WR_205 (Or.inl rfl) (Or.inl rfl) dX6_deliverFirst_66 ((sd_al hC dX6_deliverFirst_69 ((sd_gf hC (ci := 3) (fk := 4) rfl wi_Not (by decide) fl_WR_270 (Or.inl rfl) dX6_deliverFirst_71 ((sd_il_n hC rfl dX6_deliverFirst_74 ((sd_cS hC c_WR_inMask ys_WR_inMask ml_WR_77 (by decide) (by decide) dX6_deliverFirst_75 ((sd_ifne hC (tgt := 96) (by decide) dX6_deliverFirst_78 (s_WR_deliverFirst_96 hC hN) ((sd_al_n hC rfl dX6_deliverFirst_81 ((sd_al hC dX6_deliverFirst_82 ((sd_il_n hC rfl dX6_deliverFirst_84 ((sd_cV hC c_WR_letHear yv_WR_letHear (ci := 7) rfl rfl ml_WR_156 (by decide) (by decide) dX6_deliverFirst_85 ((sd_al_n hC rfl dX6_deliverFirst_88 ((sd_al hC dX6_deliverFirst_89 ((sd_il_n hC rfl dX6_deliverFirst_91 ((sd_il_n hC rfl dX6_deliverFirst_92 ((sd_cV hC c_WR_passOn yv_WR_passOn (ci := 7) rfl rfl ml_WR_160 (by decide) (by decide) dX6_deliverFirst_93 (s_WR_deliverFirst_96 hC hN))))))))))))))))))))))))))))))))))))))))
def B_WR_deliverFirst_44 (mc ms : Nat) (Rt : Option zAV → zMp → Prop) (g : Nat → zKT) : zKT :=
  (i_al 0 (i_il 4 (i_callV mc ms 7 2 T_WR_findNotice co_WR_findNotice (i_as 5 (i_al 5 (i_ifn (i_vret mc ms Rt) (B_WR_deliverFirst_58 mc ms Rt g)))))))
set_option maxRecDepth 20000 in
theorem s_WR_deliverFirst_44 {X : zMa} {mc ms : Nat} {Rt : Option zAV → zMp → Prop} (hC : zCx X RX6 cX6_deliverFirst 6 134 mc ms (none) false Rt) (hN : zNL X = 6) : zLe (B_WR_deliverFirst_44 mc ms Rt (zG X)) (zG X 44) :=
  (sd_al_n hC rfl dX6_deliverFirst_44 ((sd_il hC dX6_deliverFirst_45 ((sd_cV hC c_WR_findNotice yv_WR_findNotice (ci := 7) rfl rfl ml_WR_197 (by decide) (by decide) dX6_deliverFirst_47 ((sd_as hC (by rw [hN]; decide) dX6_deliverFirst_50 ((sd_al hC dX6_deliverFirst_52 ((sd_ifnonnull hC (tgt := 58) (by decide) dX6_deliverFirst_54 (s_WR_deliverFirst_58 hC hN) ((sd_vret hC dX6_deliverFirst_57)))))))))))))
def B_WR_deliverFirst_19 (mc ms : Nat) (Rt : Option zAV → zMp → Prop) (g : Nat → zKT) : zKT :=
  (i_is 4 (i_il 4 (i_ic (-2) (i_icne (B_WR_deliverFirst_44 mc ms Rt g) (i_al 0 (i_dup (i_gf 7 13 (i_ic 1 (i_iadd (i_pf 7 13 .int (i_al 0 (i_il 2 (i_callV2 mc ms 7 2 T_WR_tellNeighbours (i_vret mc ms Rt))))))))))))))
set_option maxRecDepth 20000 in
theorem s_WR_deliverFirst_19 {X : zMa} {mc ms : Nat} {Rt : Option zAV → zMp → Prop} (hC : zCx X RX6 cX6_deliverFirst 6 134 mc ms (none) false Rt) (hN : zNL X = 6) : zLe (B_WR_deliverFirst_19 mc ms Rt (zG X)) (zG X 19) :=
  (sd_is hC (by rw [hN]; decide) dX6_deliverFirst_19 ((sd_il hC dX6_deliverFirst_21 ((sd_bipush hC (by decide) dX6_deliverFirst_23 ((sd_icne hC (tgt := 44) (by decide) dX6_deliverFirst_25 (s_WR_deliverFirst_44 hC hN) ((sd_al_n hC rfl dX6_deliverFirst_28 ((sd_dup hC dX6_deliverFirst_29 ((sd_gf hC (ci := 7) (fk := 13) rfl wi_WR (by decide) fl_WR_66 (Or.inl rfl) dX6_deliverFirst_30 ((sd_iconst hC (by decide) dX6_deliverFirst_33 ((sd_iadd hC dX6_deliverFirst_34 ((sd_pf hC (ci := 7) (fk := 13) rfl wi_WR tyX6 tyX6_ok nmX6 (by decide) fl_WR_66 (Or.inl rfl) (Or.inl rfl) dX6_deliverFirst_35 ((sd_al_n hC rfl dX6_deliverFirst_38 ((sd_il_n hC rfl dX6_deliverFirst_39 ((sd_cV2 hC c_WR_tellNeighbours yv_WR_tellNeighbours (ci := 7) rfl rfl ml_WR_85 (by decide) (by decide) dX6_deliverFirst_40 ((sd_vret hC dX6_deliverFirst_43)))))))))))))))))))))))))))
def B_WR_deliverFirst_15 (mc ms : Nat) (Rt : Option zAV → zMp → Prop) (g : Nat → zKT) : zKT :=
  (i_al 3 (i_callV2 mc ms 2 1 T_Lane_takeFirst (B_WR_deliverFirst_19 mc ms Rt g)))
set_option maxRecDepth 20000 in
theorem s_WR_deliverFirst_15 {X : zMa} {mc ms : Nat} {Rt : Option zAV → zMp → Prop} (hC : zCx X RX6 cX6_deliverFirst 6 134 mc ms (none) false Rt) (hN : zNL X = 6) : zLe (B_WR_deliverFirst_15 mc ms Rt (zG X)) (zG X 15) :=
  (sd_al_n hC rfl dX6_deliverFirst_15 ((sd_cV2 hC c_Lane_takeFirst yv_Lane_takeFirst (ci := 2) rfl rfl ml_WR_267 (by decide) (by decide) dX6_deliverFirst_16 (s_WR_deliverFirst_19 hC hN))))
def B_WR_deliverFirst_0 (mc ms : Nat) (Rt : Option zAV → zMp → Prop) (g : Nat → zKT) : zKT :=
  (i_al 0 (i_il 1 (i_il 2 (i_callV mc ms 7 3 T_WR_laneFrom co_WR_laneFrom (i_as 3 (i_al 3 (i_ifn (i_ic (-1) (B_WR_deliverFirst_19 mc ms Rt g)) (B_WR_deliverFirst_15 mc ms Rt g))))))))
set_option maxRecDepth 20000 in
theorem s_WR_deliverFirst_0 {X : zMa} {mc ms : Nat} {Rt : Option zAV → zMp → Prop} (hC : zCx X RX6 cX6_deliverFirst 6 134 mc ms (none) false Rt) (hN : zNL X = 6) : zLe (B_WR_deliverFirst_0 mc ms Rt (zG X)) (zG X 0) :=
  (sd_al_n hC rfl dX6_deliverFirst_0 ((sd_il_n hC rfl dX6_deliverFirst_1 ((sd_il_n hC rfl dX6_deliverFirst_2 ((sd_cV hC c_WR_laneFrom yv_WR_laneFrom (ci := 7) rfl rfl ml_WR_89 (by decide) (by decide) dX6_deliverFirst_3 ((sd_as_n hC rfl (by rw [hN]; decide) dX6_deliverFirst_6 ((sd_al_n hC rfl dX6_deliverFirst_7 ((sd_ifnonnull hC (tgt := 15) (by decide) dX6_deliverFirst_8 (s_WR_deliverFirst_15 hC hN) ((sd_iconst hC (by decide) dX6_deliverFirst_11 ((sd_goto hC (tgt := 19) (by decide) dX6_deliverFirst_12 (s_WR_deliverFirst_19 hC hN))))))))))))))))))
theorem c_WR_deliverFirst (l : Launch) : zCT2 l yX6_deliverFirst cX6_deliverFirst 6 (none) 6 134 T_WR_deliverFirst := by
  intro As M Rt c1 c2 hT
  obtain ⟨x, u, v, rfl, rfl, hI, hrow, hc1, hc2, hR⟩ := hT
  refine zMet_of false (by decide +kernel) (fun h => by first | rfl | cases h) (Nat.le_of_ble_eq_true rfl) (fun X hN hC => ?_)
  show zG X 0 [some (.inr (0, 0, 0)), some (.inl (.int u)), some (.inl (.int v)), none, none, none] [] (pic x) 0 0
  have fin : ∀ (y : zSt) (it : Int32) (j3 j4 j5 : Option zAV), (j3 = some (.inl .null) ∨ ∃ n, j3 = some (.inr n)) → Iv y → (it = -2 → 2 * tn_c (df_t y) v (x_dk y) ≤ c1 ∧ 6 * tn_c (df_t y) v (x_dk y) ≤ c2) → Rt none (pic (df2 y u v it)) → B_WR_deliverFirst_19 c1 c2 Rt (zG X) [some (.inr (0, 0, 0)), some (.inl (.int u)), some (.inl (.int v)), j3, j4, j5] [.inl (.int it)] (pic y) 0 0 := by
    intro y it j3 j4 j5 hj3 hIy hcy hRy
    unfold df2 at hRy
    simp only [B_WR_deliverFirst_0, B_WR_deliverFirst_15, B_WR_deliverFirst_19, B_WR_deliverFirst_44, B_WR_deliverFirst_58, B_WR_deliverFirst_96, co_WR_findNotice, co_WR_inMask, co_WR_laneFrom, co_WR_letHear, co_WR_passOn, i_ic, i_lc, i_nul, i_il, i_ll, i_al, i_is, i_as, i_ls, i_inc, i_iadd, i_isub, i_imul, i_iand, i_ior, i_ixor, i_idiv, i_irem, i_ishl, i_ishr, i_ladd, i_lsub, i_land, i_lor, i_i2l, i_lushr, i_lshl, i_lshr, i_lcmp, i_dup, i_pop, i_dx1, i_dup2, i_ifeq, i_ifne, i_iflt, i_ifge, i_ifgt, i_ifle, i_iceq, i_icne, i_iclt, i_icge, i_icgt, i_icle, i_ifn, i_gf, i_pf, i_ial, i_bal, i_lal, i_aal, i_ias, i_las, i_bas, i_aas, i_alen, i_newa, i_new, i_anew, i_cast, i_oi, i_call, i_callV, i_callV2, i_callI, i_iret, i_zret, i_lret, i_vret, i_aret, i_mmx, i_mmn, i_gsE, i_aceq, i_no, i_acq, i_sw, zsw, zlg, zls, znl, zfg, zcs, zsp, zrc, zisn, zft, zc1, zto, Value.category, List.set_cons_zero, List.set_cons_succ, List.length_cons, List.length_nil, Option.toList, List.append, List.nil_append, List.cons_append, true_and, and_true, Nat.add_zero, Nat.zero_le, Nat.zero_add, Nat.le_refl, Nat.reduceAdd, Nat.reduceLeDiff, co0, z0, zn_0, zn_1, zn_2, zn_3, zn_4, zn_5, zn_8, zn_12, zn_24, zn_121, zn_144, zn_256, zn_300, zn_600, zn_720, zn_1204, zn_1280, zn_2400, zn_4816, zn_14400, zn_90000, p_main, x_main]
    refine ⟨by rcases hj3 with rfl | ⟨n, rfl⟩ <;> trivial, fun hit => ?_, fun hit => ⟨m_k (by decide), by decide, ?_⟩⟩
    · rw [if_neg hit] at hRy
      refine ⟨y, it, rfl, rfl, hIy, ?_⟩
      rcases fnd_c (K := 12) (n := x_nn y) (by have := hIy.lim; omega) it with ⟨e, e2⟩ | ⟨k, hk, rfl, e, e2⟩
      · rw [e]
        simp only [zov, i_ic, i_lc, i_nul, i_il, i_ll, i_al, i_is, i_as, i_ls, i_inc, i_iadd, i_isub, i_imul, i_iand, i_ior, i_ixor, i_idiv, i_irem, i_ishl, i_ishr, i_ladd, i_lsub, i_land, i_lor, i_i2l, i_lushr, i_lshl, i_lshr, i_lcmp, i_dup, i_pop, i_dx1, i_dup2, i_ifeq, i_ifne, i_iflt, i_ifge, i_ifgt, i_ifle, i_iceq, i_icne, i_iclt, i_icge, i_icgt, i_icle, i_ifn, i_gf, i_pf, i_ial, i_bal, i_lal, i_aal, i_ias, i_las, i_bas, i_aas, i_alen, i_newa, i_new, i_anew, i_cast, i_oi, i_call, i_callV, i_callV2, i_callI, i_iret, i_zret, i_lret, i_vret, i_aret, i_mmx, i_mmn, i_gsE, i_aceq, i_no, i_acq, i_sw, zsw, zlg, zls, znl, zfg, zcs, zsp, zrc, zisn, zft, zc1, zto, Value.category, List.set_cons_zero, List.set_cons_succ, List.length_cons, List.length_nil, Option.toList, List.append, List.nil_append, List.cons_append, true_and, and_true, Nat.add_zero, Nat.zero_le, Nat.zero_add, Nat.le_refl, Nat.reduceAdd, Nat.reduceLeDiff, co0, z0, zn_0, zn_1, zn_2, zn_3, zn_4, zn_5, zn_8, zn_12, zn_24, zn_121, zn_144, zn_256, zn_300, zn_600, zn_720, zn_1204, zn_1280, zn_2400, zn_4816, zn_14400, zn_90000]
        rw [e2] at hRy
        exact hRy
      · rw [e]
        rw [e2, if_pos rfl, nI_clamp (by have := hIy.lim; omega)] at hRy
        have hk' : k < x_on y := Nat.lt_of_lt_of_le hk hIy.cnt.2.2
        simp only [zov, p_ntc hk', x_ntc, i_ic, i_lc, i_nul, i_il, i_ll, i_al, i_is, i_as, i_ls, i_inc, i_iadd, i_isub, i_imul, i_iand, i_ior, i_ixor, i_idiv, i_irem, i_ishl, i_ishr, i_ladd, i_lsub, i_land, i_lor, i_i2l, i_lushr, i_lshl, i_lshr, i_lcmp, i_dup, i_pop, i_dx1, i_dup2, i_ifeq, i_ifne, i_iflt, i_ifge, i_ifgt, i_ifle, i_iceq, i_icne, i_iclt, i_icge, i_icgt, i_icle, i_ifn, i_gf, i_pf, i_ial, i_bal, i_lal, i_aal, i_ias, i_las, i_bas, i_aas, i_alen, i_newa, i_new, i_anew, i_cast, i_oi, i_call, i_callV, i_callV2, i_callI, i_iret, i_zret, i_lret, i_vret, i_aret, i_mmx, i_mmn, i_gsE, i_aceq, i_no, i_acq, i_sw, zsw, zlg, zls, znl, zfg, zcs, zsp, zrc, zisn, zft, zc1, zto, Value.category, List.set_cons_zero, List.set_cons_succ, List.length_cons, List.length_nil, Option.toList, List.append, List.nil_append, List.cons_append, true_and, and_true, Nat.add_zero, Nat.zero_le, Nat.zero_add, Nat.le_refl, Nat.reduceAdd, Nat.reduceLeDiff, co0, z0, zn_0, zn_1, zn_2, zn_3, zn_4, zn_5, zn_8, zn_12, zn_24, zn_121, zn_144, zn_256, zn_300, zn_600, zn_720, zn_1204, zn_1280, zn_2400, zn_4816, zn_14400, zn_90000]
        refine ⟨m_k (by decide), by decide, ?_⟩
        have e3 := pu_nm y k (x_nm y k - 1) hk'
        simp only [x_ntc, g_dk_nm, g_lk_nm, g_po_nm, g_ne_nm, g_td_nm, g_nb_nm, g_ln_nm, g_nr_nm, g_nw_nm, g_nn_nm, g_ns_nm, g_or_nm, g_ow_nm, g_on_nm, g_nl_nm, g_ng_nm, g_rg_nm, g_lc_nm, g_cp_nm, g_gb_nm, g_sp_nm, g_kn_nm, g_me_nm, g_ob_nm, g_fk_nm, g_fz_nm, g_fg_nm, g_rd_nm, g_rz_nm, g_rh_nm, g_nd_nm, g_nm_nm, g_nv_nm, g_nh_nm, g_nf_nm, g_wr_nm, g_wa_nm, g_lz_nm, g_lf_nm, g_li_nm, g_lt_nm, g_lb_nm, g_lr_nm, g_tn_nm, g_tf_nm, va_up, if_true] at e3
        rw [e3]
        unfold df3 at hRy
        have hnw : x_nw y = x_nw (u_nm y (va_up (x_nm y) k (x_nm y k - 1))) := rfl
        have hnv : x_nv y k = x_nv (u_nm y (va_up (x_nm y) k (x_nm y k - 1))) k := rfl
        rw [hnw, hnv] at hRy
        have hk2 : k < x_on (u_nm y (va_up (x_nm y) k (x_nm y k - 1))) := hk'
        have hI2 : Iv (u_nm y (va_up (x_nm y) k (x_nm y k - 1))) := hIy
        generalize u_nm y (va_up (x_nm y) k (x_nm y k - 1)) = z at hRy hk2 hI2
        simp only [zov, p_ntc hk2, x_ntc, p_main, x_main, i_ic, i_lc, i_nul, i_il, i_ll, i_al, i_is, i_as, i_ls, i_inc, i_iadd, i_isub, i_imul, i_iand, i_ior, i_ixor, i_idiv, i_irem, i_ishl, i_ishr, i_ladd, i_lsub, i_land, i_lor, i_i2l, i_lushr, i_lshl, i_lshr, i_lcmp, i_dup, i_pop, i_dx1, i_dup2, i_ifeq, i_ifne, i_iflt, i_ifge, i_ifgt, i_ifle, i_iceq, i_icne, i_iclt, i_icge, i_icgt, i_icle, i_ifn, i_gf, i_pf, i_ial, i_bal, i_lal, i_aal, i_ias, i_las, i_bas, i_aas, i_alen, i_newa, i_new, i_anew, i_cast, i_oi, i_call, i_callV, i_callV2, i_callI, i_iret, i_zret, i_lret, i_vret, i_aret, i_mmx, i_mmn, i_gsE, i_aceq, i_no, i_acq, i_sw, zsw, zlg, zls, znl, zfg, zcs, zsp, zrc, zisn, zft, zc1, zto, Value.category, List.set_cons_zero, List.set_cons_succ, List.length_cons, List.length_nil, Option.toList, List.append, List.nil_append, List.cons_append, true_and, and_true, Nat.add_zero, Nat.zero_le, Nat.zero_add, Nat.le_refl, Nat.reduceAdd, Nat.reduceLeDiff, co0, z0, zn_0, zn_1, zn_2, zn_3, zn_4, zn_5, zn_8, zn_12, zn_24, zn_121, zn_144, zn_256, zn_300, zn_600, zn_720, zn_1204, zn_1280, zn_2400, zn_4816, zn_14400, zn_90000]
        refine ⟨x_nv z k, v, rfl, ?_⟩
        simp only [zov, p_ntc hk2, x_ntc, p_main, x_main, i_ic, i_lc, i_nul, i_il, i_ll, i_al, i_is, i_as, i_ls, i_inc, i_iadd, i_isub, i_imul, i_iand, i_ior, i_ixor, i_idiv, i_irem, i_ishl, i_ishr, i_ladd, i_lsub, i_land, i_lor, i_i2l, i_lushr, i_lshl, i_lshr, i_lcmp, i_dup, i_pop, i_dx1, i_dup2, i_ifeq, i_ifne, i_iflt, i_ifge, i_ifgt, i_ifle, i_iceq, i_icne, i_iclt, i_icge, i_icgt, i_icle, i_ifn, i_gf, i_pf, i_ial, i_bal, i_lal, i_aal, i_ias, i_las, i_bas, i_aas, i_alen, i_newa, i_new, i_anew, i_cast, i_oi, i_call, i_callV, i_callV2, i_callI, i_iret, i_zret, i_lret, i_vret, i_aret, i_mmx, i_mmn, i_gsE, i_aceq, i_no, i_acq, i_sw, zsw, zlg, zls, znl, zfg, zcs, zsp, zrc, zisn, zft, zc1, zto, Value.category, List.set_cons_zero, List.set_cons_succ, List.length_cons, List.length_nil, Option.toList, List.append, List.nil_append, List.cons_append, true_and, and_true, Nat.add_zero, Nat.zero_le, Nat.zero_add, Nat.le_refl, Nat.reduceAdd, Nat.reduceLeDiff, co0, z0, zn_0, zn_1, zn_2, zn_3, zn_4, zn_5, zn_8, zn_12, zn_24, zn_121, zn_144, zn_256, zn_300, zn_600, zn_720, zn_1204, zn_1280, zn_2400, zn_4816, zn_14400, zn_90000]
        cases hm : inm (x_nv z k) v with
        | true =>
          rw [hm, if_pos rfl] at hRy
          exact ⟨fun _ => hRy, fun h => absurd h (by decide)⟩
        | false =>
          simp only [hm, Bool.false_eq_true, if_false] at hRy
          refine ⟨fun h => absurd rfl h, fun _ => ⟨z, k, v, rfl, rfl, hI2, hk2, ?_⟩⟩
          have hI3 := Iv_lh (k := k) (d := v) hI2 (x_nw z)
          have hkk := lh_k_n z k v (x_nw z)
          generalize lh z k v (x_nw z) = z2 at hRy hI3 hkk
          have hk3 : k < x_on z2 := by rw [hkk.2.1]; exact hk2
          simp only [zov, p_ntc hk3, x_ntc, p_main, x_main, i_ic, i_lc, i_nul, i_il, i_ll, i_al, i_is, i_as, i_ls, i_inc, i_iadd, i_isub, i_imul, i_iand, i_ior, i_ixor, i_idiv, i_irem, i_ishl, i_ishr, i_ladd, i_lsub, i_land, i_lor, i_i2l, i_lushr, i_lshl, i_lshr, i_lcmp, i_dup, i_pop, i_dx1, i_dup2, i_ifeq, i_ifne, i_iflt, i_ifge, i_ifgt, i_ifle, i_iceq, i_icne, i_iclt, i_icge, i_icgt, i_icle, i_ifn, i_gf, i_pf, i_ial, i_bal, i_lal, i_aal, i_ias, i_las, i_bas, i_aas, i_alen, i_newa, i_new, i_anew, i_cast, i_oi, i_call, i_callV, i_callV2, i_callI, i_iret, i_zret, i_lret, i_vret, i_aret, i_mmx, i_mmn, i_gsE, i_aceq, i_no, i_acq, i_sw, zsw, zlg, zls, znl, zfg, zcs, zsp, zrc, zisn, zft, zc1, zto, Value.category, List.set_cons_zero, List.set_cons_succ, List.length_cons, List.length_nil, Option.toList, List.append, List.nil_append, List.cons_append, true_and, and_true, Nat.add_zero, Nat.zero_le, Nat.zero_add, Nat.le_refl, Nat.reduceAdd, Nat.reduceLeDiff, co0, z0, zn_0, zn_1, zn_2, zn_3, zn_4, zn_5, zn_8, zn_12, zn_24, zn_121, zn_144, zn_256, zn_300, zn_600, zn_720, zn_1204, zn_1280, zn_2400, zn_4816, zn_14400, zn_90000]
          exact ⟨z2, k, v, u, rfl, rfl, hI3, hk3, hRy⟩
    · rw [if_pos hit] at hRy
      obtain ⟨hd1, hd2⟩ := hcy hit
      have e4 := pu_td y (x_td y + 1)
      simp only [x_main, g_dk_td, g_lk_td, g_po_td, g_ne_td, g_td_td, g_nb_td, g_ln_td, g_nr_td, g_nw_td, g_nn_td, g_ns_td, g_or_td, g_ow_td, g_on_td, g_nl_td, g_ng_td, g_rg_td, g_lc_td, g_cp_td, g_gb_td, g_sp_td, g_kn_td, g_me_td, g_ob_td, g_fk_td, g_fz_td, g_fg_td, g_rd_td, g_rz_td, g_rh_td, g_nd_td, g_nm_td, g_nv_td, g_nh_td, g_nf_td, g_wr_td, g_wa_td, g_lz_td, g_lf_td, g_li_td, g_lt_td, g_lb_td, g_lr_td, g_tn_td, g_tf_td] at e4
      rw [e4]
      simp only [zov, p_main, x_main, i_ic, i_lc, i_nul, i_il, i_ll, i_al, i_is, i_as, i_ls, i_inc, i_iadd, i_isub, i_imul, i_iand, i_ior, i_ixor, i_idiv, i_irem, i_ishl, i_ishr, i_ladd, i_lsub, i_land, i_lor, i_i2l, i_lushr, i_lshl, i_lshr, i_lcmp, i_dup, i_pop, i_dx1, i_dup2, i_ifeq, i_ifne, i_iflt, i_ifge, i_ifgt, i_ifle, i_iceq, i_icne, i_iclt, i_icge, i_icgt, i_icle, i_ifn, i_gf, i_pf, i_ial, i_bal, i_lal, i_aal, i_ias, i_las, i_bas, i_aas, i_alen, i_newa, i_new, i_anew, i_cast, i_oi, i_call, i_callV, i_callV2, i_callI, i_iret, i_zret, i_lret, i_vret, i_aret, i_mmx, i_mmn, i_gsE, i_aceq, i_no, i_acq, i_sw, zsw, zlg, zls, znl, zfg, zcs, zsp, zrc, zisn, zft, zc1, zto, Value.category, List.set_cons_zero, List.set_cons_succ, List.length_cons, List.length_nil, Option.toList, List.append, List.nil_append, List.cons_append, true_and, and_true, Nat.add_zero, Nat.zero_le, Nat.zero_add, Nat.le_refl, Nat.reduceAdd, Nat.reduceLeDiff, co0, z0, zn_0, zn_1, zn_2, zn_3, zn_4, zn_5, zn_8, zn_12, zn_24, zn_121, zn_144, zn_256, zn_300, zn_600, zn_720, zn_1204, zn_1280, zn_2400, zn_4816, zn_14400, zn_90000]
      refine ⟨_, _, hd1, hd2, df_t y, v, rfl, rfl, hIy, Nat.le_refl _, Nat.le_refl _, ?_⟩
      exact ⟨hd1, hd2, hRy⟩
  refine s_WR_deliverFirst_0 hC hN _ _ _ _ _ ?_
  simp only [B_WR_deliverFirst_0, B_WR_deliverFirst_15, co_WR_findNotice, co_WR_inMask, co_WR_laneFrom, co_WR_letHear, co_WR_passOn, i_ic, i_lc, i_nul, i_il, i_ll, i_al, i_is, i_as, i_ls, i_inc, i_iadd, i_isub, i_imul, i_iand, i_ior, i_ixor, i_idiv, i_irem, i_ishl, i_ishr, i_ladd, i_lsub, i_land, i_lor, i_i2l, i_lushr, i_lshl, i_lshr, i_lcmp, i_dup, i_pop, i_dx1, i_dup2, i_ifeq, i_ifne, i_iflt, i_ifge, i_ifgt, i_ifle, i_iceq, i_icne, i_iclt, i_icge, i_icgt, i_icle, i_ifn, i_gf, i_pf, i_ial, i_bal, i_lal, i_aal, i_ias, i_las, i_bas, i_aas, i_alen, i_newa, i_new, i_anew, i_cast, i_oi, i_call, i_callV, i_callV2, i_callI, i_iret, i_zret, i_lret, i_vret, i_aret, i_mmx, i_mmn, i_gsE, i_aceq, i_no, i_acq, i_sw, zsw, zlg, zls, znl, zfg, zcs, zsp, zrc, zisn, zft, zc1, zto, Value.category, List.set_cons_zero, List.set_cons_succ, List.length_cons, List.length_nil, Option.toList, List.append, List.nil_append, List.cons_append, true_and, and_true, Nat.add_zero, Nat.zero_le, Nat.zero_add, Nat.le_refl, Nat.reduceAdd, Nat.reduceLeDiff, co0, z0, zn_0, zn_1, zn_2, zn_3, zn_4, zn_5, zn_8, zn_12, zn_24, zn_121, zn_144, zn_256, zn_300, zn_600, zn_720, zn_1204, zn_1280, zn_2400, zn_4816, zn_14400, zn_90000, p_main, x_main]
  refine ⟨x, u, v, rfl, rfl, hI.dk, ?_⟩
  unfold df at hR
  unfold df_c at hc1 hc2
  rcases lnF_c hI u v with e | ⟨q, e, hok⟩
  · rw [e] at hR ⊢
    simp only [zln, Option.map_none, zov, i_ic, i_lc, i_nul, i_il, i_ll, i_al, i_is, i_as, i_ls, i_inc, i_iadd, i_isub, i_imul, i_iand, i_ior, i_ixor, i_idiv, i_irem, i_ishl, i_ishr, i_ladd, i_lsub, i_land, i_lor, i_i2l, i_lushr, i_lshl, i_lshr, i_lcmp, i_dup, i_pop, i_dx1, i_dup2, i_ifeq, i_ifne, i_iflt, i_ifge, i_ifgt, i_ifle, i_iceq, i_icne, i_iclt, i_icge, i_icgt, i_icle, i_ifn, i_gf, i_pf, i_ial, i_bal, i_lal, i_aal, i_ias, i_las, i_bas, i_aas, i_alen, i_newa, i_new, i_anew, i_cast, i_oi, i_call, i_callV, i_callV2, i_callI, i_iret, i_zret, i_lret, i_vret, i_aret, i_mmx, i_mmn, i_gsE, i_aceq, i_no, i_acq, i_sw, zsw, zlg, zls, znl, zfg, zcs, zsp, zrc, zisn, zft, zc1, zto, Value.category, List.set_cons_zero, List.set_cons_succ, List.length_cons, List.length_nil, Option.toList, List.append, List.nil_append, List.cons_append, true_and, and_true, Nat.add_zero, Nat.zero_le, Nat.zero_add, Nat.le_refl, Nat.reduceAdd, Nat.reduceLeDiff, co0, z0, zn_0, zn_1, zn_2, zn_3, zn_4, zn_5, zn_8, zn_12, zn_24, zn_121, zn_144, zn_256, zn_300, zn_600, zn_720, zn_1204, zn_1280, zn_2400, zn_4816, zn_14400, zn_90000]
    exact fin x (-1) _ _ _ (by first | exact Or.inl rfl | exact Or.inr ⟨_, rfl⟩) hI (fun h => absurd h (by decide)) hR
  · rw [e] at hR hc1 hc2 ⊢
    have hrw := hrow q e
    simp only [zln, Option.map_some, zov, p_lane hok.1, x_lane, i_ic, i_lc, i_nul, i_il, i_ll, i_al, i_is, i_as, i_ls, i_inc, i_iadd, i_isub, i_imul, i_iand, i_ior, i_ixor, i_idiv, i_irem, i_ishl, i_ishr, i_ladd, i_lsub, i_land, i_lor, i_i2l, i_lushr, i_lshl, i_lshr, i_lcmp, i_dup, i_pop, i_dx1, i_dup2, i_ifeq, i_ifne, i_iflt, i_ifge, i_ifgt, i_ifle, i_iceq, i_icne, i_iclt, i_icge, i_icgt, i_icle, i_ifn, i_gf, i_pf, i_ial, i_bal, i_lal, i_aal, i_ias, i_las, i_bas, i_aas, i_alen, i_newa, i_new, i_anew, i_cast, i_oi, i_call, i_callV, i_callV2, i_callI, i_iret, i_zret, i_lret, i_vret, i_aret, i_mmx, i_mmn, i_gsE, i_aceq, i_no, i_acq, i_sw, zsw, zlg, zls, znl, zfg, zcs, zsp, zrc, zisn, zft, zc1, zto, Value.category, List.set_cons_zero, List.set_cons_succ, List.length_cons, List.length_nil, Option.toList, List.append, List.nil_append, List.cons_append, true_and, and_true, Nat.add_zero, Nat.zero_le, Nat.zero_add, Nat.le_refl, Nat.reduceAdd, Nat.reduceLeDiff, co0, z0, zn_0, zn_1, zn_2, zn_3, zn_4, zn_5, zn_8, zn_12, zn_24, zn_121, zn_144, zn_256, zn_300, zn_600, zn_720, zn_1204, zn_1280, zn_2400, zn_4816, zn_14400, zn_90000]
    refine ⟨0, 0, Nat.zero_le _, Nat.zero_le _, x, q, rfl, rfl, hok, fun h1 h2 h3 => absurd h3 (hrw h1 h2), fun h0 => ?_, fun h0 => ?_⟩
    · simp only [df_y, df_it, h0, if_true] at hR
      exact fin x (-1) _ _ _ (by first | exact Or.inl rfl | exact Or.inr ⟨_, rfl⟩) hI (fun h => absurd h (by decide)) hR
    · have h0' : x_lz x q ≠ 0 := h0
      simp only [df_y, df_it, h0', if_false] at hR hc1 hc2
      refine fin (la_take x q) _ _ _ _ (Or.inr ⟨_, rfl⟩) (Iv_take hI hok.2.1) (fun h => ?_) hR
      rw [if_pos h] at hc1 hc2
      exact ⟨hc1, hc2⟩
