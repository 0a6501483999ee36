/-! WishRoutes: deliver, all -/
theorem kk_t {x y z : zSt} (h1 : tn_k x y) (h2 : tn_k y z) : tn_k x z := ⟨h2.1.trans h1.1, h2.2.1.trans h1.2.1, h2.2.2.trans h1.2.2⟩
theorem kk_r (x : zSt) : tn_k x x := ⟨rfl, rfl, rfl⟩
theorem kk_take (x : zSt) (l : Nat) : tn_k x (la_take x l) := by
  have h1 : tn_k x (la_take1 x l) := by
    unfold la_take1
    split
    · exact tn_k_mk x l _
    · exact kk_r x
  exact h1
theorem kk_rda (x : zSt) (r : Nat) (v : Int32) : tn_k x (rd_add x r v) := by
  unfold rd_add
  split <;> exact ⟨rfl, rfl, rfl⟩
theorem kk_lh (x : zSt) (k : Nat) (d : Int32) : ∀ n, tn_k x (lh x k d n)
  | 0 => ⟨rfl, rfl, rfl⟩
  | n + 1 => by
    refine kk_t (kk_lh x k d n) ?_
    show tn_k _ (lh_s (lh x k d n) k d n)
    unfold lh_s
    split
    · exact kk_rda (u_nh (lh x k d n) _) _ _
    · exact kk_r _
theorem kk_po1 (y : zSt) (a k : Nat) : tn_k y (po_1 y a k) := by
  unfold po_1
  split <;> exact ⟨rfl, rfl, rfl⟩
theorem kk_po4 (y : zSt) (k : Nat) (d v : Int32) : tn_k y (po_4 y k d v) := by
  unfold po_4
  split <;> exact ⟨rfl, rfl, rfl⟩
theorem kk_pos (y : zSt) (k : Nat) (d f : Int32) (i : Nat) : tn_k y (po_s y k d f i) := by
  unfold po_s
  split
  · exact kk_r y
  · split
    · exact kk_r y
    · next a _ _ _ =>
      split
      · exact kk_t (kk_po1 y _ k) (kk_po4 (po_3 (po_2 (po_1 y _ k) k)) k d (nI i))
      · exact kk_r y
theorem kk_po (x : zSt) (k : Nat) (d f : Int32) : ∀ n, tn_k x (po x k d f n)
  | 0 => kk_r x
  | n + 1 => kk_t (kk_po x k d f n) (kk_pos _ k d f n)
theorem kk_df3 (y : zSt) (k : Nat) (u v : Int32) : tn_k y (df3 y k u v) := by
  unfold df3
  split
  · exact ⟨rfl, rfl, rfl⟩
  · exact kk_t (kk_lh (u_nm y (va_up (x_nm y) k (x_nm y k - 1))) k v (x_nw y)) (kk_po (lh (u_nm y (va_up (x_nm y) k (x_nm y k - 1))) k v (x_nw y)) k v u _)
theorem kk_df2 (y : zSt) (u v it : Int32) : tn_k y (df2 y u v it) := by
  unfold df2
  split
  · exact tn_k_n (df_t y) v _
  · split
    · exact kk_df3 y _ u v
    · exact kk_r y
theorem kk_df (x : zSt) (u v : Int32) : tn_k x (df x u v) := by
  unfold df
  split
  · exact kk_df2 x u v _
  · next l _ =>
    refine kk_t ?_ (kk_df2 (df_y x l) u v _)
    unfold df_y
    split
    · exact kk_r x
    · exact kk_take x l
noncomputable def dl (x : zSt) (u v : Int32) : Nat → zSt
  | 0 => x
  | n + 1 => df (dl x u v n) u v
noncomputable def dl_c (x : zSt) (u v : Int32) : Nat → Nat
  | 0 => 0
  | n + 1 => dl_c x u v n + df_c (dl x u v n) u v
theorem kk_dl (x : zSt) (u v : Int32) : ∀ n, tn_k x (dl x u v n)
  | 0 => kk_r x
  | n + 1 => kk_t (kk_dl x u v n) (kk_df _ u v)
theorem Iv_dl {x : zSt} {u v : Int32} (h : Iv x) : ∀ n, Iv (dl x u v n)
  | 0 => h
  | n + 1 => Iv_df (Iv_dl h n)
theorem dl_c_mono (x : zSt) (u v : Int32) : ∀ n m, n ≤ m → dl_c x u v n ≤ dl_c x u v m := by
  intro n m h
  induction h with
  | refl => exact Nat.le_refl _
  | step _ ih => exact Nat.le_trans ih (by simp only [dl_c]; omega)
def dl_N (x : zSt) (u v n : Int32) (q N : Nat) : Prop := N ≤ 1000000 ∧ (∀ i, i < N → nI i < n ∧ 0 < x_lz (dl x u v i) q ∧ df_ok (dl x u v i) u v) ∧ (¬ nI N < n ∨ N = 1000000 ∨ x_lz (dl x u v N) q = 0)
def T_WR_deliver (As : List zAV) (M : zMp) (Rt : Option zAV → zMp → Prop) (c1 c2 : Nat) : Prop := ∃ x u v n, As = [.inr (0, 0, 0), .inl (.int u), .inl (.int v), .inl (.int n)] ∧ M = pic x ∧ Iv x ∧ (¬ (isn (x_dk x) u = true ∧ isn (x_dk x) v = true ∧ ¬ n < 0) → Rt (some (.inl (.int (-2)))) M) ∧ (isn (x_dk x) u = true → isn (x_dk x) v = true → ¬ n < 0 → lnF x u v = none → Rt (some (.inl (.int (-5)))) M) ∧ (∀ q, isn (x_dk x) u = true → isn (x_dk x) v = true → ¬ n < 0 → lnF x u v = some q → ∃ N, dl_N x u v n q N ∧ 2 * dl_c x u v N ≤ c1 ∧ 6 * dl_c x u v N ≤ c2 ∧ Rt (some (.inl (.int (nI N)))) (pic (dl x u v N)))
theorem dX6_deliver_0 : decode cX6_deliver 0 = .ok (.aload_n 0, 1) := by decide +kernel
theorem dX6_deliver_1 : decode cX6_deliver 1 = .ok (.iload_n 1, 1) := by decide +kernel
theorem dX6_deliver_2 : decode cX6_deliver 2 = .ok (.invokevirtual 69, 3) := by decide +kernel
theorem dX6_deliver_5 : decode cX6_deliver 5 = .ok (.ifCond .eq 15, 3) := by decide +kernel
theorem dX6_deliver_8 : decode cX6_deliver 8 = .ok (.aload_n 0, 1) := by decide +kernel
theorem dX6_deliver_9 : decode cX6_deliver 9 = .ok (.iload_n 2, 1) := by decide +kernel
theorem dX6_deliver_10 : decode cX6_deliver 10 = .ok (.invokevirtual 69, 3) := by decide +kernel
theorem dX6_deliver_13 : decode cX6_deliver 13 = .ok (.ifCond .eq 7, 3) := by decide +kernel
theorem dX6_deliver_16 : decode cX6_deliver 16 = .ok (.iload_n 3, 1) := by decide +kernel
theorem dX6_deliver_17 : decode cX6_deliver 17 = .ok (.ifCond .ge 6, 3) := by decide +kernel
theorem dX6_deliver_20 : decode cX6_deliver 20 = .ok (.bipush (-2), 2) := by decide +kernel
theorem dX6_deliver_22 : decode cX6_deliver 22 = .ok (.ireturn, 1) := by decide +kernel
theorem dX6_deliver_23 : decode cX6_deliver 23 = .ok (.aload_n 0, 1) := by decide +kernel
theorem dX6_deliver_24 : decode cX6_deliver 24 = .ok (.iload_n 1, 1) := by decide +kernel
theorem dX6_deliver_25 : decode cX6_deliver 25 = .ok (.iload_n 2, 1) := by decide +kernel
theorem dX6_deliver_26 : decode cX6_deliver 26 = .ok (.invokevirtual 89, 3) := by decide +kernel
theorem dX6_deliver_29 : decode cX6_deliver 29 = .ok (.astore 4, 2) := by decide +kernel
theorem dX6_deliver_31 : decode cX6_deliver 31 = .ok (.aload 4, 2) := by decide +kernel
theorem dX6_deliver_33 : decode cX6_deliver 33 = .ok (.ifnonnull 6, 3) := by decide +kernel
theorem dX6_deliver_36 : decode cX6_deliver 36 = .ok (.bipush (-5), 2) := by decide +kernel
theorem dX6_deliver_38 : decode cX6_deliver 38 = .ok (.ireturn, 1) := by decide +kernel
theorem dX6_deliver_39 : decode cX6_deliver 39 = .ok (.iconst 0, 1) := by decide +kernel
theorem dX6_deliver_40 : decode cX6_deliver 40 = .ok (.istore 5, 2) := by decide +kernel
theorem dX6_deliver_42 : decode cX6_deliver 42 = .ok (.iload 5, 2) := by decide +kernel
theorem dX6_deliver_44 : decode cX6_deliver 44 = .ok (.iload_n 3, 1) := by decide +kernel
theorem dX6_deliver_45 : decode cX6_deliver 45 = .ok (.if_icmp .ge 30, 3) := by decide +kernel
theorem dX6_deliver_48 : decode cX6_deliver 48 = .ok (.iload 5, 2) := by decide +kernel
theorem dX6_deliver_50 : decode cX6_deliver 50 = .ok (.ldc 164, 2) := by decide +kernel
theorem dX6_deliver_52 : decode cX6_deliver 52 = .ok (.if_icmp .ge 23, 3) := by decide +kernel
theorem dX6_deliver_55 : decode cX6_deliver 55 = .ok (.aload 4, 2) := by decide +kernel
theorem dX6_deliver_57 : decode cX6_deliver 57 = .ok (.getfield 165, 3) := by decide +kernel
theorem dX6_deliver_60 : decode cX6_deliver 60 = .ok (.ifCond .le 15, 3) := by decide +kernel
theorem dX6_deliver_63 : decode cX6_deliver 63 = .ok (.aload_n 0, 1) := by decide +kernel
theorem dX6_deliver_64 : decode cX6_deliver 64 = .ok (.iload_n 1, 1) := by decide +kernel
theorem dX6_deliver_65 : decode cX6_deliver 65 = .ok (.iload_n 2, 1) := by decide +kernel
theorem dX6_deliver_66 : decode cX6_deliver 66 = .ok (.invokevirtual 167, 3) := by decide +kernel
theorem dX6_deliver_69 : decode cX6_deliver 69 = .ok (.iinc 5 1, 3) := by decide +kernel
theorem dX6_deliver_72 : decode cX6_deliver 72 = .ok (.goto (-30), 3) := by decide +kernel
theorem dX6_deliver_75 : decode cX6_deliver 75 = .ok (.iload 5, 2) := by decide +kernel
theorem dX6_deliver_77 : decode cX6_deliver 77 = .ok (.ireturn, 1) := by decide +kernel
def B_WR_deliver_75 (mc ms : Nat) (Rt : Option zAV → zMp → Prop) (g : Nat → zKT) : zKT :=
  (i_il 5 (i_iret mc ms Rt))
set_option maxRecDepth 20000 in
theorem s_WR_deliver_75 {X : zMa} {mc ms : Nat} {Rt : Option zAV → zMp → Prop} (hC : zCx X RX6 cX6_deliver 7 159 mc ms (some .int) false Rt) (hN : zNL X = 6) : zLe (B_WR_deliver_75 mc ms Rt (zG X)) (zG X 75) :=
  (sd_il hC dX6_deliver_75 ((sd_iret hC dX6_deliver_77)))
def B_WR_deliver_42 (mc ms : Nat) (Rt : Option zAV → zMp → Prop) (g : Nat → zKT) : zKT :=
  (i_il 5 (i_il 3 (i_icge (B_WR_deliver_75 mc ms Rt g) (i_il 5 (i_ic 1000000 (i_icge (B_WR_deliver_75 mc ms Rt g) (i_al 4 (i_gf 2 2 (i_ifle (B_WR_deliver_75 mc ms Rt g) (i_al 0 (i_il 1 (i_il 2 (i_callV2 mc ms 7 3 T_WR_deliverFirst (i_inc 5 1 (g 42)))))))))))))))
set_option maxRecDepth 20000 in
theorem s_WR_deliver_42 {X : zMa} {mc ms : Nat} {Rt : Option zAV → zMp → Prop} (hC : zCx X RX6 cX6_deliver 7 159 mc ms (some .int) false Rt) (hN : zNL X = 6) : zLe (B_WR_deliver_42 mc ms Rt (zG X)) (zG X 42) :=
  (sd_il hC dX6_deliver_42 ((sd_il_n hC rfl dX6_deliver_44 ((sd_icge hC (tgt := 75) (by decide) dX6_deliver_45 (s_WR_deliver_75 hC hN) ((sd_il hC dX6_deliver_48 ((sd_ldc hC kc_WR_164 dX6_deliver_50 ((sd_icge hC (tgt := 75) (by decide) dX6_deliver_52 (s_WR_deliver_75 hC hN) ((sd_al hC dX6_deliver_55 ((sd_gf hC (ci := 2) (fk := 2) rfl wi_Lane (by decide) fl_WR_165 (Or.inl rfl) dX6_deliver_57 ((sd_ifle hC (tgt := 75) (by decide) dX6_deliver_60 (s_WR_deliver_75 hC hN) ((sd_al_n hC rfl dX6_deliver_63 ((sd_il_n hC rfl dX6_deliver_64 ((sd_il_n hC rfl dX6_deliver_65 ((sd_cV2 hC c_WR_deliverFirst yv_WR_deliverFirst (ci := 7) rfl rfl ml_WR_167 (by decide) (by decide) dX6_deliver_66 ((sd_inc hC (by decide) (by rw [hN]; decide) dX6_deliver_69 ((sd_goto hC (tgt := 42) (by decide) dX6_deliver_72 (zLe_rfl))))))))))))))))))))))))))))))
def B_WR_deliver_39 (mc ms : Nat) (Rt : Option zAV → zMp → Prop) (g : Nat → zKT) : zKT :=
  (i_ic 0 (i_is 5 (g 42)))
set_option maxRecDepth 20000 in
theorem s_WR_deliver_39 {X : zMa} {mc ms : Nat} {Rt : Option zAV → zMp → Prop} (hC : zCx X RX6 cX6_deliver 7 159 mc ms (some .int) false Rt) (hN : zNL X = 6) : zLe (B_WR_deliver_39 mc ms Rt (zG X)) (zG X 39) :=
  (sd_iconst hC (by decide) dX6_deliver_39 ((sd_is hC (by rw [hN]; decide) dX6_deliver_40 (zLe_rfl))))
def B_WR_deliver_23 (mc ms : Nat) (Rt : Option zAV → zMp → Prop) (g : Nat → zKT) : zKT :=
  (i_al 0 (i_il 1 (i_il 2 (i_callV mc ms 7 3 T_WR_laneFrom co_WR_laneFrom (i_as 4 (i_al 4 (i_ifn (i_ic (-5) (i_iret mc ms Rt)) (B_WR_deliver_39 mc ms Rt g))))))))
set_option maxRecDepth 20000 in
theorem s_WR_deliver_23 {X : zMa} {mc ms : Nat} {Rt : Option zAV → zMp → Prop} (hC : zCx X RX6 cX6_deliver 7 159 mc ms (some .int) false Rt) (hN : zNL X = 6) : zLe (B_WR_deliver_23 mc ms Rt (zG X)) (zG X 23) :=
  (sd_al_n hC rfl dX6_deliver_23 ((sd_il_n hC rfl dX6_deliver_24 ((sd_il_n hC rfl dX6_deliver_25 ((sd_cV hC c_WR_laneFrom yv_WR_laneFrom (ci := 7) rfl rfl ml_WR_89 (by decide) (by decide) dX6_deliver_26 ((sd_as hC (by rw [hN]; decide) dX6_deliver_29 ((sd_al hC dX6_deliver_31 ((sd_ifnonnull hC (tgt := 39) (by decide) dX6_deliver_33 (s_WR_deliver_39 hC hN) ((sd_bipush hC (by decide) dX6_deliver_36 ((sd_iret hC dX6_deliver_38)))))))))))))))))
def B_WR_deliver_20 (mc ms : Nat) (Rt : Option zAV → zMp → Prop) (g : Nat → zKT) : zKT :=
  (i_ic (-2) (i_iret mc ms Rt))
set_option maxRecDepth 20000 in
theorem s_WR_deliver_20 {X : zMa} {mc ms : Nat} {Rt : Option zAV → zMp → Prop} (hC : zCx X RX6 cX6_deliver 7 159 mc ms (some .int) false Rt) (hN : zNL X = 6) : zLe (B_WR_deliver_20 mc ms Rt (zG X)) (zG X 20) :=
  (sd_bipush hC (by decide) dX6_deliver_20 ((sd_iret hC dX6_deliver_22)))
def B_WR_deliver_0 (mc ms : Nat) (Rt : Option zAV → zMp → Prop) (g : Nat → zKT) : zKT :=
  (i_al 0 (i_il 1 (i_callV mc ms 7 2 T_WR_isDesk co_WR_isDesk (i_ifeq (B_WR_deliver_20 mc ms Rt g) (i_al 0 (i_il 2 (i_callV mc ms 7 2 T_WR_isDesk co_WR_isDesk (i_ifeq (B_WR_deliver_20 mc ms Rt g) (i_il 3 (i_ifge (B_WR_deliver_23 mc ms Rt g) (B_WR_deliver_20 mc ms Rt g)))))))))))
set_option maxRecDepth 20000 in
theorem s_WR_deliver_0 {X : zMa} {mc ms : Nat} {Rt : Option zAV → zMp → Prop} (hC : zCx X RX6 cX6_deliver 7 159 mc ms (some .int) false Rt) (hN : zNL X = 6) : zLe (B_WR_deliver_0 mc ms Rt (zG X)) (zG X 0) :=
  (sd_al_n hC rfl dX6_deliver_0 ((sd_il_n hC rfl dX6_deliver_1 ((sd_cV hC c_WR_isDesk yv_WR_isDesk (ci := 7) rfl rfl ml_WR_69 (by decide) (by decide) dX6_deliver_2 ((sd_ifeq hC (tgt := 20) (by decide) dX6_deliver_5 (s_WR_deliver_20 hC hN) ((sd_al_n hC rfl dX6_deliver_8 ((sd_il_n hC rfl dX6_deliver_9 ((sd_cV hC c_WR_isDesk yv_WR_isDesk (ci := 7) rfl rfl ml_WR_69 (by decide) (by decide) dX6_deliver_10 ((sd_ifeq hC (tgt := 20) (by decide) dX6_deliver_13 (s_WR_deliver_20 hC hN) ((sd_il_n hC rfl dX6_deliver_16 ((sd_ifge hC (tgt := 23) (by decide) dX6_deliver_17 (s_WR_deliver_23 hC hN) (s_WR_deliver_20 hC hN))))))))))))))))))))
theorem c_WR_deliver (l : Launch) : zCT2 l yX6_deliver cX6_deliver 6 (some .int) 7 159 T_WR_deliver := by
  intro As M Rt c1 c2 hT
  obtain ⟨x, u, v, n, rfl, rfl, hI, hR0, hR1, hR2⟩ := hT
  have hd := hI.dk
  refine zMet_of false (by decide +kernel) (fun h => by first | rfl | cases h) (Nat.le_of_ble_eq_true rfl) (fun X hN hC => ?_)
  show zG X 0 [some (.inr (0, 0, 0)), some (.inl (.int u)), some (.inl (.int v)), some (.inl (.int n)), none, none] [] (pic x) 0 0
  refine s_WR_deliver_0 hC hN _ _ _ _ _ ?_
  simp only [B_WR_deliver_0, B_WR_deliver_20, B_WR_deliver_23, B_WR_deliver_39, B_WR_deliver_42, B_WR_deliver_75, co_WR_isDesk, co_WR_laneFrom, i_ic, i_lc, i_nul, i_il, i_ll, i_al, i_is, i_as, i_ls, i_inc, i_iadd, i_isub, i_imul, i_iand, i_ior, i_ixor, i_idiv, i_irem, i_ishl, i_ishr, i_ladd, i_lsub, i_land, i_lor, i_i2l, i_lushr, i_lshl, i_lshr, i_lcmp, i_dup, i_pop, i_dx1, i_dup2, i_ifeq, i_ifne, i_iflt, i_ifge, i_ifgt, i_ifle, i_iceq, i_icne, i_iclt, i_icge, i_icgt, i_icle, i_ifn, i_gf, i_pf, i_ial, i_bal, i_lal, i_aal, i_ias, i_las, i_bas, i_aas, i_alen, i_newa, i_new, i_anew, i_cast, i_oi, i_call, i_callV, i_callV2, i_callI, i_iret, i_zret, i_lret, i_vret, i_aret, i_mmx, i_mmn, i_gsE, i_aceq, i_no, i_acq, i_sw, zsw, zlg, zls, znl, zfg, zcs, zsp, zrc, zisn, zft, zc1, zto, Value.category, List.set_cons_zero, List.set_cons_succ, List.length_cons, List.length_nil, Option.toList, List.append, List.nil_append, List.cons_append, true_and, and_true, Nat.add_zero, Nat.zero_le, Nat.zero_add, Nat.le_refl, Nat.reduceAdd, Nat.reduceLeDiff, co0, z0, zn_0, zn_1, zn_2, zn_3, zn_4, zn_5, zn_8, zn_12, zn_24, zn_121, zn_144, zn_256, zn_300, zn_600, zn_720, zn_1204, zn_1280, zn_2400, zn_4816, zn_14400, zn_90000, p_main, x_main]
  refine ⟨x, u, rfl, rfl, fun h => hR0 (fun q => by rw [q.1] at h; exact absurd h (by decide)), fun h => ?_⟩
  have hu := zb_n0 h
  simp only [p_main, x_main, i_ic, i_lc, i_nul, i_il, i_ll, i_al, i_is, i_as, i_ls, i_inc, i_iadd, i_isub, i_imul, i_iand, i_ior, i_ixor, i_idiv, i_irem, i_ishl, i_ishr, i_ladd, i_lsub, i_land, i_lor, i_i2l, i_lushr, i_lshl, i_lshr, i_lcmp, i_dup, i_pop, i_dx1, i_dup2, i_ifeq, i_ifne, i_iflt, i_ifge, i_ifgt, i_ifle, i_iceq, i_icne, i_iclt, i_icge, i_icgt, i_icle, i_ifn, i_gf, i_pf, i_ial, i_bal, i_lal, i_aal, i_ias, i_las, i_bas, i_aas, i_alen, i_newa, i_new, i_anew, i_cast, i_oi, i_call, i_callV, i_callV2, i_callI, i_iret, i_zret, i_lret, i_vret, i_aret, i_mmx, i_mmn, i_gsE, i_aceq, i_no, i_acq, i_sw, zsw, zlg, zls, znl, zfg, zcs, zsp, zrc, zisn, zft, zc1, zto, Value.category, List.set_cons_zero, List.set_cons_succ, List.length_cons, List.length_nil, Option.toList, List.append, List.nil_append, List.cons_append, true_and, and_true, Nat.add_zero, Nat.zero_le, Nat.zero_add, Nat.le_refl, Nat.reduceAdd, Nat.reduceLeDiff, co0, z0, zn_0, zn_1, zn_2, zn_3, zn_4, zn_5, zn_8, zn_12, zn_24, zn_121, zn_144, zn_256, zn_300, zn_600, zn_720, zn_1204, zn_1280, zn_2400, zn_4816, zn_14400, zn_90000]
  refine ⟨x, v, rfl, rfl, fun h => hR0 (fun q => by rw [q.2.1] at h; exact absurd h (by decide)), fun h => ?_⟩
  have hv := zb_n0 h
  simp only [p_main, x_main, i_ic, i_lc, i_nul, i_il, i_ll, i_al, i_is, i_as, i_ls, i_inc, i_iadd, i_isub, i_imul, i_iand, i_ior, i_ixor, i_idiv, i_irem, i_ishl, i_ishr, i_ladd, i_lsub, i_land, i_lor, i_i2l, i_lushr, i_lshl, i_lshr, i_lcmp, i_dup, i_pop, i_dx1, i_dup2, i_ifeq, i_ifne, i_iflt, i_ifge, i_ifgt, i_ifle, i_iceq, i_icne, i_iclt, i_icge, i_icgt, i_icle, i_ifn, i_gf, i_pf, i_ial, i_bal, i_lal, i_aal, i_ias, i_las, i_bas, i_aas, i_alen, i_newa, i_new, i_anew, i_cast, i_oi, i_call, i_callV, i_callV2, i_callI, i_iret, i_zret, i_lret, i_vret, i_aret, i_mmx, i_mmn, i_gsE, i_aceq, i_no, i_acq, i_sw, zsw, zlg, zls, znl, zfg, zcs, zsp, zrc, zisn, zft, zc1, zto, Value.category, List.set_cons_zero, List.set_cons_succ, List.length_cons, List.length_nil, Option.toList, List.append, List.nil_append, List.cons_append, true_and, and_true, Nat.add_zero, Nat.zero_le, Nat.zero_add, Nat.le_refl, Nat.reduceAdd, Nat.reduceLeDiff, co0, z0, zn_0, zn_1, zn_2, zn_3, zn_4, zn_5, zn_8, zn_12, zn_24, zn_121, zn_144, zn_256, zn_300, zn_600, zn_720, zn_1204, zn_1280, zn_2400, zn_4816, zn_14400, zn_90000]
  refine ⟨fun hn => ?_, fun hn => ?_⟩
  rotate_left
  · exact hR0 (fun q => q.2.2 (by first | exact hn | exact Int32.not_le.mp hn))
  have hn : ¬ n < 0 := by first | exact hn | exact Int32.not_lt.mpr hn
  refine ⟨x, u, v, rfl, rfl, hd, ?_⟩
  rcases lnF_c hI u v with e0 | ⟨q, e0, hok⟩
  · rw [e0]
    simp only [zln, Option.map_none, zov, i_ic, i_lc, i_nul, i_il, i_ll, i_al, i_is, i_as, i_ls, i_inc, i_iadd, i_isub, i_imul, i_iand, i_ior, i_ixor, i_idiv, i_irem, i_ishl, i_ishr, i_ladd, i_lsub, i_land, i_lor, i_i2l, i_lushr, i_lshl, i_lshr, i_lcmp, i_dup, i_pop, i_dx1, i_dup2, i_ifeq, i_ifne, i_iflt, i_ifge, i_ifgt, i_ifle, i_iceq, i_icne, i_iclt, i_icge, i_icgt, i_icle, i_ifn, i_gf, i_pf, i_ial, i_bal, i_lal, i_aal, i_ias, i_las, i_bas, i_aas, i_alen, i_newa, i_new, i_anew, i_cast, i_oi, i_call, i_callV, i_callV2, i_callI, i_iret, i_zret, i_lret, i_vret, i_aret, i_mmx, i_mmn, i_gsE, i_aceq, i_no, i_acq, i_sw, zsw, zlg, zls, znl, zfg, zcs, zsp, zrc, zisn, zft, zc1, zto, Value.category, List.set_cons_zero, List.set_cons_succ, List.length_cons, List.length_nil, Option.toList, List.append, List.nil_append, List.cons_append, true_and, and_true, Nat.add_zero, Nat.zero_le, Nat.zero_add, Nat.le_refl, Nat.reduceAdd, Nat.reduceLeDiff, co0, z0, zn_0, zn_1, zn_2, zn_3, zn_4, zn_5, zn_8, zn_12, zn_24, zn_121, zn_144, zn_256, zn_300, zn_600, zn_720, zn_1204, zn_1280, zn_2400, zn_4816, zn_14400, zn_90000]
    exact hR1 hu hv hn e0
  rw [e0]
  obtain ⟨N, ⟨hN1, hN2, hN3⟩, hc1, hc2, hR⟩ := hR2 q hu hv hn e0
  simp only [zln, Option.map_some, zov, i_ic, i_lc, i_nul, i_il, i_ll, i_al, i_is, i_as, i_ls, i_inc, i_iadd, i_isub, i_imul, i_iand, i_ior, i_ixor, i_idiv, i_irem, i_ishl, i_ishr, i_ladd, i_lsub, i_land, i_lor, i_i2l, i_lushr, i_lshl, i_lshr, i_lcmp, i_dup, i_pop, i_dx1, i_dup2, i_ifeq, i_ifne, i_iflt, i_ifge, i_ifgt, i_ifle, i_iceq, i_icne, i_iclt, i_icge, i_icgt, i_icle, i_ifn, i_gf, i_pf, i_ial, i_bal, i_lal, i_aal, i_ias, i_las, i_bas, i_aas, i_alen, i_newa, i_new, i_anew, i_cast, i_oi, i_call, i_callV, i_callV2, i_callI, i_iret, i_zret, i_lret, i_vret, i_aret, i_mmx, i_mmn, i_gsE, i_aceq, i_no, i_acq, i_sw, zsw, zlg, zls, znl, zfg, zcs, zsp, zrc, zisn, zft, zc1, zto, Value.category, List.set_cons_zero, List.set_cons_succ, List.length_cons, List.length_nil, Option.toList, List.append, List.nil_append, List.cons_append, true_and, and_true, Nat.add_zero, Nat.zero_le, Nat.zero_add, Nat.le_refl, Nat.reduceAdd, Nat.reduceLeDiff, co0, z0, zn_0, zn_1, zn_2, zn_3, zn_4, zn_5, zn_8, zn_12, zn_24, zn_121, zn_144, zn_256, zn_300, zn_600, zn_720, zn_1204, zn_1280, zn_2400, zn_4816, zn_14400, zn_90000]
  have loop := upto (N := N) (P := fun i => zG X 42 [some (.inr (0, 0, 0)), some (.inl (.int u)), some (.inl (.int v)), some (.inl (.int n)), some (.inr (16, q, 0)), some (.inl (.int (nI i)))] [] (pic (dl x u v i)) (2 * dl_c x u v i) (6 * dl_c x u v i)) (fun i hi ih => by
    have hIy := Iv_dl (u := u) (v := v) hI i
    have hk := kk_dl x u v i
    obtain ⟨g1, g2, g3⟩ := hN2 i hi
    have hm := dl_c_mono x u v (i + 1) N hi
    simp only [dl, dl_c] at ih hm
    generalize dl x u v i = y at ih hIy hk g2 g3 hm
    generalize dl_c x u v i = cc at ih hm
    have hq : q < x_nl y := by rw [hk.2.2]; exact hok.1
    have hlz := hIy.lan q hq
    refine s_WR_deliver_42 hC hN _ _ _ _ _ ?_
    simp only [B_WR_deliver_0, B_WR_deliver_20, B_WR_deliver_23, B_WR_deliver_39, B_WR_deliver_42, B_WR_deliver_75, co_WR_isDesk, co_WR_laneFrom, i_ic, i_lc, i_nul, i_il, i_ll, i_al, i_is, i_as, i_ls, i_inc, i_iadd, i_isub, i_imul, i_iand, i_ior, i_ixor, i_idiv, i_irem, i_ishl, i_ishr, i_ladd, i_lsub, i_land, i_lor, i_i2l, i_lushr, i_lshl, i_lshr, i_lcmp, i_dup, i_pop, i_dx1, i_dup2, i_ifeq, i_ifne, i_iflt, i_ifge, i_ifgt, i_ifle, i_iceq, i_icne, i_iclt, i_icge, i_icgt, i_icle, i_ifn, i_gf, i_pf, i_ial, i_bal, i_lal, i_aal, i_ias, i_las, i_bas, i_aas, i_alen, i_newa, i_new, i_anew, i_cast, i_oi, i_call, i_callV, i_callV2, i_callI, i_iret, i_zret, i_lret, i_vret, i_aret, i_mmx, i_mmn, i_gsE, i_aceq, i_no, i_acq, i_sw, zsw, zlg, zls, znl, zfg, zcs, zsp, zrc, zisn, zft, zc1, zto, Value.category, List.set_cons_zero, List.set_cons_succ, List.length_cons, List.length_nil, Option.toList, List.append, List.nil_append, List.cons_append, true_and, and_true, Nat.add_zero, Nat.zero_le, Nat.zero_add, Nat.le_refl, Nat.reduceAdd, Nat.reduceLeDiff, co0, z0, zn_0, zn_1, zn_2, zn_3, zn_4, zn_5, zn_8, zn_12, zn_24, zn_121, zn_144, zn_256, zn_300, zn_600, zn_720, zn_1204, zn_1280, zn_2400, zn_4816, zn_14400, zn_90000, p_main, x_main, p_lane hq, x_lane]
    rw [nI_1]
    refine ⟨fun h => absurd g1 (Int32.not_lt.mpr h), fun _ => ⟨fun h => absurd ((zK (K := 1000000) (by decide) (n := i) (by omega)).2.1.mp h) (by omega), fun _ => ⟨fun h => absurd ((nI_le0 (by omega)).mp h) (by omega), fun _ => ?_⟩⟩⟩
    refine ⟨2 * df_c y u v, 6 * df_c y u v, by omega, by omega, y, u, v, rfl, rfl, hIy, g3, Nat.le_refl _, Nat.le_refl _, ?_⟩
    rw [Nat.mul_add, Nat.mul_add] at ih
    exact ih) (by
    have hIy := Iv_dl (u := u) (v := v) hI N
    have hk := kk_dl x u v N
    generalize dl x u v N = y at hR hIy hk hN3
    have hq : q < x_nl y := by rw [hk.2.2]; exact hok.1
    have hlz := hIy.lan q hq
    refine s_WR_deliver_42 hC hN _ _ _ _ _ ?_
    simp only [B_WR_deliver_0, B_WR_deliver_20, B_WR_deliver_23, B_WR_deliver_39, B_WR_deliver_42, B_WR_deliver_75, co_WR_isDesk, co_WR_laneFrom, i_ic, i_lc, i_nul, i_il, i_ll, i_al, i_is, i_as, i_ls, i_inc, i_iadd, i_isub, i_imul, i_iand, i_ior, i_ixor, i_idiv, i_irem, i_ishl, i_ishr, i_ladd, i_lsub, i_land, i_lor, i_i2l, i_lushr, i_lshl, i_lshr, i_lcmp, i_dup, i_pop, i_dx1, i_dup2, i_ifeq, i_ifne, i_iflt, i_ifge, i_ifgt, i_ifle, i_iceq, i_icne, i_iclt, i_icge, i_icgt, i_icle, i_ifn, i_gf, i_pf, i_ial, i_bal, i_lal, i_aal, i_ias, i_las, i_bas, i_aas, i_alen, i_newa, i_new, i_anew, i_cast, i_oi, i_call, i_callV, i_callV2, i_callI, i_iret, i_zret, i_lret, i_vret, i_aret, i_mmx, i_mmn, i_gsE, i_aceq, i_no, i_acq, i_sw, zsw, zlg, zls, znl, zfg, zcs, zsp, zrc, zisn, zft, zc1, zto, Value.category, List.set_cons_zero, List.set_cons_succ, List.length_cons, List.length_nil, Option.toList, List.append, List.nil_append, List.cons_append, true_and, and_true, Nat.add_zero, Nat.zero_le, Nat.zero_add, Nat.le_refl, Nat.reduceAdd, Nat.reduceLeDiff, co0, z0, zn_0, zn_1, zn_2, zn_3, zn_4, zn_5, zn_8, zn_12, zn_24, zn_121, zn_144, zn_256, zn_300, zn_600, zn_720, zn_1204, zn_1280, zn_2400, zn_4816, zn_14400, zn_90000, p_main, x_main, p_lane hq, x_lane]
    refine ⟨fun _ => ⟨hc1, hc2, hR⟩, fun h1 => ⟨fun _ => ⟨hc1, hc2, hR⟩, fun h2 => ⟨fun _ => ⟨hc1, hc2, hR⟩, fun h3 => ?_⟩⟩⟩
    rcases hN3 with z | z | z
    · exact absurd (Int32.not_lt.mp z) h1
    · exact absurd ((zK (K := 1000000) (by decide) (n := N) (by omega)).2.1.mpr (by omega)) h2
    · exact absurd ((nI_le0 (by omega)).mpr (by omega)) h3) 0 (Nat.zero_le _)
  exact loop
/-! all -/
noncomputable def al_c (s : Nat → zSt) (p : Nat → Nat) : Nat → Nat
  | 0 => 0
  | n + 1 => al_c s p n + df_c (s n) (nI (p n / 12)) (nI (p n % 12))
theorem al_c_mono (s : Nat → zSt) (p : Nat → Nat) : ∀ n m, n ≤ m → al_c s p n ≤ al_c s p m := by
  intro n m h
  induction h with
  | refl => exact Nat.le_refl _
  | step _ ih => exact Nat.le_trans ih (by simp only [al_c]; omega)
/-- a run of deliveries, always from the first place that has a message -/
def al_N (x : zSt) (s : Nat → zSt) (p : Nat → Nat) (N : Nat) : Prop := s 0 = x ∧ N ≤ 1000000 ∧ (∀ i, i < N → p i < 144 ∧ x_busy (s i) (p i) ∧ (∀ q, q < p i → ¬ x_busy (s i) q) ∧ df_ok (s i) (nI (p i / 12)) (nI (p i % 12)) ∧ s (i + 1) = df (s i) (nI (p i / 12)) (nI (p i % 12))) ∧ (∀ q, q < 144 → ¬ x_busy (s N) q)
def T_WR_all (As : List zAV) (M : zMp) (Rt : Option zAV → zMp → Prop) (c1 c2 : Nat) : Prop := ∃ x s p N, As = [.inr (0, 0, 0)] ∧ M = pic x ∧ Iv x ∧ al_N x s p N ∧ 2 * al_c s p N ≤ c1 ∧ 6 * al_c s p N ≤ c2 ∧ Rt (some (.inl (.int (nI N)))) (pic (s N))
theorem dX6_all_0 : decode cX6_all 0 = .ok (.iconst 0, 1) := by decide +kernel
theorem dX6_all_1 : decode cX6_all 1 = .ok (.istore_n 1, 1) := by decide +kernel
theorem dX6_all_2 : decode cX6_all 2 = .ok (.aload_n 0, 1) := by decide +kernel
theorem dX6_all_3 : decode cX6_all 3 = .ok (.invokevirtual 170, 3) := by decide +kernel
theorem dX6_all_6 : decode cX6_all 6 = .ok (.istore_n 2, 1) := by decide +kernel
theorem dX6_all_7 : decode cX6_all 7 = .ok (.iload_n 2, 1) := by decide +kernel
theorem dX6_all_8 : decode cX6_all 8 = .ok (.iconst (-1), 1) := by decide +kernel
theorem dX6_all_9 : decode cX6_all 9 = .ok (.if_icmp .eq 32, 3) := by decide +kernel
theorem dX6_all_12 : decode cX6_all 12 = .ok (.iload_n 1, 1) := by decide +kernel
theorem dX6_all_13 : decode cX6_all 13 = .ok (.ldc 164, 2) := by decide +kernel
theorem dX6_all_15 : decode cX6_all 15 = .ok (.if_icmp .ge 26, 3) := by decide +kernel
theorem dX6_all_18 : decode cX6_all 18 = .ok (.aload_n 0, 1) := by decide +kernel
theorem dX6_all_19 : decode cX6_all 19 = .ok (.iload_n 2, 1) := by decide +kernel
theorem dX6_all_20 : decode cX6_all 20 = .ok (.bipush 12, 2) := by decide +kernel
theorem dX6_all_22 : decode cX6_all 22 = .ok (.idiv, 1) := by decide +kernel
theorem dX6_all_23 : decode cX6_all 23 = .ok (.iload_n 2, 1) := by decide +kernel
theorem dX6_all_24 : decode cX6_all 24 = .ok (.bipush 12, 2) := by decide +kernel
theorem dX6_all_26 : decode cX6_all 26 = .ok (.irem, 1) := by decide +kernel
theorem dX6_all_27 : decode cX6_all 27 = .ok (.invokevirtual 167, 3) := by decide +kernel
theorem dX6_all_30 : decode cX6_all 30 = .ok (.iinc 1 1, 3) := by decide +kernel
theorem dX6_all_33 : decode cX6_all 33 = .ok (.aload_n 0, 1) := by decide +kernel
theorem dX6_all_34 : decode cX6_all 34 = .ok (.invokevirtual 170, 3) := by decide +kernel
theorem dX6_all_37 : decode cX6_all 37 = .ok (.istore_n 2, 1) := by decide +kernel
theorem dX6_all_38 : decode cX6_all 38 = .ok (.goto (-31), 3) := by decide +kernel
theorem dX6_all_41 : decode cX6_all 41 = .ok (.iload_n 1, 1) := by decide +kernel
theorem dX6_all_42 : decode cX6_all 42 = .ok (.ireturn, 1) := by decide +kernel
def B_WR_all_41 (mc ms : Nat) (Rt : Option zAV → zMp → Prop) (g : Nat → zKT) : zKT :=
  (i_il 1 (i_iret mc ms Rt))
set_option maxRecDepth 20000 in
theorem s_WR_all_41 {X : zMa} {mc ms : Nat} {Rt : Option zAV → zMp → Prop} (hC : zCx X RX6 cX6_all 7 159 mc ms (some .int) false Rt) (hN : zNL X = 3) : zLe (B_WR_all_41 mc ms Rt (zG X)) (zG X 41) :=
  (sd_il_n hC rfl dX6_all_41 ((sd_iret hC dX6_all_42)))
def B_WR_all_7 (mc ms : Nat) (Rt : Option zAV → zMp → Prop) (g : Nat → zKT) : zKT :=
  (i_il 2 (i_ic (-1) (i_iceq (B_WR_all_41 mc ms Rt g) (i_il 1 (i_ic 1000000 (i_icge (B_WR_all_41 mc ms Rt g) (i_al 0 (i_il 2 (i_ic 12 (i_idiv (i_il 2 (i_ic 12 (i_irem (i_callV2 mc ms 7 3 T_WR_deliverFirst (i_inc 1 1 (i_al 0 (i_callV mc ms 7 1 T_WR_firstBusyPlace co_WR_firstBusyPlace (i_is 2 (g 7)))))))))))))))))))
set_option maxRecDepth 20000 in
theorem s_WR_all_7 {X : zMa} {mc ms : Nat} {Rt : Option zAV → zMp → Prop} (hC : zCx X RX6 cX6_all 7 159 mc ms (some .int) false Rt) (hN : zNL X = 3) : zLe (B_WR_all_7 mc ms Rt (zG X)) (zG X 7) :=
  (sd_il_n hC rfl dX6_all_7 ((sd_iconst hC (by decide) dX6_all_8 ((sd_iceq hC (tgt := 41) (by decide) dX6_all_9 (s_WR_all_41 hC hN) ((sd_il_n hC rfl dX6_all_12 ((sd_ldc hC kc_WR_164 dX6_all_13 ((sd_icge hC (tgt := 41) (by decide) dX6_all_15 (s_WR_all_41 hC hN) ((sd_al_n hC rfl dX6_all_18 ((sd_il_n hC rfl dX6_all_19 ((sd_bipush hC (by decide) dX6_all_20 ((sd_idiv hC dX6_all_22 ((sd_il_n hC rfl dX6_all_23 ((sd_bipush hC (by decide) dX6_all_24 ((sd_irem hC dX6_all_26 ((sd_cV2 hC c_WR_deliverFirst yv_WR_deliverFirst (ci := 7) rfl rfl ml_WR_167 (by decide) (by decide) dX6_all_27 ((sd_inc hC (by decide) (by rw [hN]; decide) dX6_all_30 ((sd_al_n hC rfl dX6_all_33 ((sd_cV hC c_WR_firstBusyPlace yv_WR_firstBusyPlace (ci := 7) rfl rfl ml_WR_170 (by decide) (by decide) dX6_all_34 ((sd_is_n hC rfl (by rw [hN]; decide) dX6_all_37 ((sd_goto hC (tgt := 7) (by decide) dX6_all_38 (zLe_rfl))))))))))))))))))))))))))))))))))))))
def B_WR_all_0 (mc ms : Nat) (Rt : Option zAV → zMp → Prop) (g : Nat → zKT) : zKT :=
  (i_ic 0 (i_is 1 (i_al 0 (i_callV mc ms 7 1 T_WR_firstBusyPlace co_WR_firstBusyPlace (i_is 2 (g 7))))))
set_option maxRecDepth 20000 in
theorem s_WR_all_0 {X : zMa} {mc ms : Nat} {Rt : Option zAV → zMp → Prop} (hC : zCx X RX6 cX6_all 7 159 mc ms (some .int) false Rt) (hN : zNL X = 3) : zLe (B_WR_all_0 mc ms Rt (zG X)) (zG X 0) :=
  (sd_iconst hC (by decide) dX6_all_0 ((sd_is_n hC rfl (by rw [hN]; decide) dX6_all_1 ((sd_al_n hC rfl dX6_all_2 ((sd_cV hC c_WR_firstBusyPlace yv_WR_firstBusyPlace (ci := 7) rfl rfl ml_WR_170 (by decide) (by decide) dX6_all_3 ((sd_is_n hC rfl (by rw [hN]; decide) dX6_all_6 (zLe_rfl))))))))))
theorem c_WR_all (l : Launch) : zCT2 l yX6_all cX6_all 3 (some .int) 7 159 T_WR_all := by
  intro As M Rt c1 c2 hT
  obtain ⟨x, s, p, N, rfl, rfl, hI, ⟨h0, hN1, hN2, hN3⟩, hc1, hc2, hR⟩ := hT
  refine zMet_of false (by decide +kernel) (fun h => by first | rfl | cases h) (Nat.le_of_ble_eq_true rfl) (fun X hN hC => ?_)
  show zG X 0 [some (.inr (0, 0, 0)), none, none] [] (pic x) 0 0
  have hIs : ∀ i, i ≤ N → Iv (s i) := by
    intro i
    induction i with
    | zero => intro _; rw [h0]; exact hI
    | succ i ih =>
      intro hi
      obtain ⟨_, _, _, _, e⟩ := hN2 i hi
      rw [e]
      exact Iv_df (ih (by omega))
  have loop := upto (N := N) (P := fun i => ∀ z : Int32, ((∀ q, q < 144 → ¬ x_busy (s i) q) → z = -1) → (∀ q, q < 144 → x_busy (s i) q → (∀ r, r < q → ¬ x_busy (s i) r) → z = nI q) → zG X 7 [some (.inr (0, 0, 0)), some (.inl (.int (nI i))), some (.inl (.int z))] [] (pic (s i)) (2 * al_c s p i) (6 * al_c s p i)) (fun i hi ih z hz1 hz2 => by
    have hIy := hIs i (by omega)
    have hIy1 := hIs (i + 1) hi
    obtain ⟨g1, g2, g3, g4, g5⟩ := hN2 i hi
    have hm := al_c_mono s p (i + 1) N hi
    simp only [al_c] at ih hm
    rw [g5] at ih hIy1
    have ez := hz2 (p i) g1 g2 g3
    subst ez
    generalize al_c s p i = cc at ih hm
    refine s_WR_all_7 hC hN _ _ _ _ _ ?_
    simp only [B_WR_all_0, B_WR_all_7, B_WR_all_41, co_WR_firstBusyPlace, i_ic, i_lc, i_nul, i_il, i_ll, i_al, i_is, i_as, i_ls, i_inc, i_iadd, i_isub, i_imul, i_iand, i_ior, i_ixor, i_idiv, i_irem, i_ishl, i_ishr, i_ladd, i_lsub, i_land, i_lor, i_i2l, i_lushr, i_lshl, i_lshr, i_lcmp, i_dup, i_pop, i_dx1, i_dup2, i_ifeq, i_ifne, i_iflt, i_ifge, i_ifgt, i_ifle, i_iceq, i_icne, i_iclt, i_icge, i_icgt, i_icle, i_ifn, i_gf, i_pf, i_ial, i_bal, i_lal, i_aal, i_ias, i_las, i_bas, i_aas, i_alen, i_newa, i_new, i_anew, i_cast, i_oi, i_call, i_callV, i_callV2, i_callI, i_iret, i_zret, i_lret, i_vret, i_aret, i_mmx, i_mmn, i_gsE, i_aceq, i_no, i_acq, i_sw, zsw, zlg, zls, znl, zfg, zcs, zsp, zrc, zisn, zft, zc1, zto, Value.category, List.set_cons_zero, List.set_cons_succ, List.length_cons, List.length_nil, Option.toList, List.append, List.nil_append, List.cons_append, true_and, and_true, Nat.add_zero, Nat.zero_le, Nat.zero_add, Nat.le_refl, Nat.reduceAdd, Nat.reduceLeDiff, co0, z0, zn_0, zn_1, zn_2, zn_3, zn_4, zn_5, zn_8, zn_12, zn_24, zn_121, zn_144, zn_256, zn_300, zn_600, zn_720, zn_1204, zn_1280, zn_2400, zn_4816, zn_14400, zn_90000, p_main, x_main]
    have ed : nI (p i) / 12 = nI (p i / 12) := pk_div (d := 12) (by omega) (by decide) (by decide)
    have em : nI (p i) - nI (p i / 12) * 12 = nI (p i % 12) := by
      have := pk_rem (a := p i) (d := 12) (by omega) (by decide) (by decide)
      rw [show nI 12 = 12 from rfl, ed] at this
      exact this
    refine ⟨fun h => absurd h (by
      intro q
      have : nI (p i) < 0 := by rw [q]; decide
      exact nI_pos (by omega) this), fun _ => ⟨fun h => absurd ((zK (K := 1000000) (by decide) (n := i) (by omega)).2.1.mp h) (by omega), fun _ => ?_⟩⟩
    try rw [ed]
    try rw [em]
    rw [nI_1]
    refine ⟨by decide, by decide, 2 * df_c (s i) (nI (p i / 12)) (nI (p i % 12)), 6 * df_c (s i) (nI (p i / 12)) (nI (p i % 12)), by omega, by omega, s i, nI (p i / 12), nI (p i % 12), rfl, rfl, hIy, g4, Nat.le_refl _, Nat.le_refl _, ?_⟩
    rw [Nat.mul_add, Nat.mul_add] at ih
    simp only [i_ic, i_lc, i_nul, i_il, i_ll, i_al, i_is, i_as, i_ls, i_inc, i_iadd, i_isub, i_imul, i_iand, i_ior, i_ixor, i_idiv, i_irem, i_ishl, i_ishr, i_ladd, i_lsub, i_land, i_lor, i_i2l, i_lushr, i_lshl, i_lshr, i_lcmp, i_dup, i_pop, i_dx1, i_dup2, i_ifeq, i_ifne, i_iflt, i_ifge, i_ifgt, i_ifle, i_iceq, i_icne, i_iclt, i_icge, i_icgt, i_icle, i_ifn, i_gf, i_pf, i_ial, i_bal, i_lal, i_aal, i_ias, i_las, i_bas, i_aas, i_alen, i_newa, i_new, i_anew, i_cast, i_oi, i_call, i_callV, i_callV2, i_callI, i_iret, i_zret, i_lret, i_vret, i_aret, i_mmx, i_mmn, i_gsE, i_aceq, i_no, i_acq, i_sw, zsw, zlg, zls, znl, zfg, zcs, zsp, zrc, zisn, zft, zc1, zto, Value.category, List.set_cons_zero, List.set_cons_succ, List.length_cons, List.length_nil, Option.toList, List.append, List.nil_append, List.cons_append, true_and, and_true, Nat.add_zero, Nat.zero_le, Nat.zero_add, Nat.le_refl, Nat.reduceAdd, Nat.reduceLeDiff, co0, z0, zn_0, zn_1, zn_2, zn_3, zn_4, zn_5, zn_8, zn_12, zn_24, zn_121, zn_144, zn_256, zn_300, zn_600, zn_720, zn_1204, zn_1280, zn_2400, zn_4816, zn_14400, zn_90000, p_main, x_main]
    generalize df (s i) (nI (p i / 12)) (nI (p i % 12)) = y1 at ih hIy1
    refine ⟨by omega, by omega, y1, rfl, rfl, hIy1, fun h => ih (-1) (fun _ => rfl) (fun q hq hb _ => absurd hb (h q hq)), fun q hq hb hf => ih (nI q) (fun h => absurd hb (h q hq)) (fun q' hq' hb' hf' => ?_)⟩
    have : q = q' := by
      rcases Nat.lt_trichotomy q q' with h | h | h
      · exact absurd hb (hf' q h)
      · exact h
      · exact absurd hb' (hf q' h)
    rw [this]) (fun z hz1 hz2 => by
    have ez := hz1 hN3
    subst ez
    refine s_WR_all_7 hC hN _ _ _ _ _ ?_
    simp only [B_WR_all_0, B_WR_all_7, B_WR_all_41, co_WR_firstBusyPlace, i_ic, i_lc, i_nul, i_il, i_ll, i_al, i_is, i_as, i_ls, i_inc, i_iadd, i_isub, i_imul, i_iand, i_ior, i_ixor, i_idiv, i_irem, i_ishl, i_ishr, i_ladd, i_lsub, i_land, i_lor, i_i2l, i_lushr, i_lshl, i_lshr, i_lcmp, i_dup, i_pop, i_dx1, i_dup2, i_ifeq, i_ifne, i_iflt, i_ifge, i_ifgt, i_ifle, i_iceq, i_icne, i_iclt, i_icge, i_icgt, i_icle, i_ifn, i_gf, i_pf, i_ial, i_bal, i_lal, i_aal, i_ias, i_las, i_bas, i_aas, i_alen, i_newa, i_new, i_anew, i_cast, i_oi, i_call, i_callV, i_callV2, i_callI, i_iret, i_zret, i_lret, i_vret, i_aret, i_mmx, i_mmn, i_gsE, i_aceq, i_no, i_acq, i_sw, zsw, zlg, zls, znl, zfg, zcs, zsp, zrc, zisn, zft, zc1, zto, Value.category, List.set_cons_zero, List.set_cons_succ, List.length_cons, List.length_nil, Option.toList, List.append, List.nil_append, List.cons_append, true_and, and_true, Nat.add_zero, Nat.zero_le, Nat.zero_add, Nat.le_refl, Nat.reduceAdd, Nat.reduceLeDiff, co0, z0, zn_0, zn_1, zn_2, zn_3, zn_4, zn_5, zn_8, zn_12, zn_24, zn_121, zn_144, zn_256, zn_300, zn_600, zn_720, zn_1204, zn_1280, zn_2400, zn_4816, zn_14400, zn_90000, p_main, x_main]
    exact ⟨fun _ => ⟨hc1, hc2, hR⟩, fun h => absurd trivial h⟩) 0 (Nat.zero_le _)
  refine s_WR_all_0 hC hN _ _ _ _ _ ?_
  simp only [B_WR_all_0, B_WR_all_7, B_WR_all_41, co_WR_firstBusyPlace, i_ic, i_lc, i_nul, i_il, i_ll, i_al, i_is, i_as, i_ls, i_inc, i_iadd, i_isub, i_imul, i_iand, i_ior, i_ixor, i_idiv, i_irem, i_ishl, i_ishr, i_ladd, i_lsub, i_land, i_lor, i_i2l, i_lushr, i_lshl, i_lshr, i_lcmp, i_dup, i_pop, i_dx1, i_dup2, i_ifeq, i_ifne, i_iflt, i_ifge, i_ifgt, i_ifle, i_iceq, i_icne, i_iclt, i_icge, i_icgt, i_icle, i_ifn, i_gf, i_pf, i_ial, i_bal, i_lal, i_aal, i_ias, i_las, i_bas, i_aas, i_alen, i_newa, i_new, i_anew, i_cast, i_oi, i_call, i_callV, i_callV2, i_callI, i_iret, i_zret, i_lret, i_vret, i_aret, i_mmx, i_mmn, i_gsE, i_aceq, i_no, i_acq, i_sw, zsw, zlg, zls, znl, zfg, zcs, zsp, zrc, zisn, zft, zc1, zto, Value.category, List.set_cons_zero, List.set_cons_succ, List.length_cons, List.length_nil, Option.toList, List.append, List.nil_append, List.cons_append, true_and, and_true, Nat.add_zero, Nat.zero_le, Nat.zero_add, Nat.le_refl, Nat.reduceAdd, Nat.reduceLeDiff, co0, z0, zn_0, zn_1, zn_2, zn_3, zn_4, zn_5, zn_8, zn_12, zn_24, zn_121, zn_144, zn_256, zn_300, zn_600, zn_720, zn_1204, zn_1280, zn_2400, zn_4816, zn_14400, zn_90000, p_main, x_main]
  rw [h0] at loop
  refine ⟨x, rfl, rfl, hI, fun h => loop (-1) (fun _ => rfl) (fun q hq hb _ => absurd hb (h q hq)), fun q hq hb hf => loop (nI q) (fun h => absurd hb (h q hq)) (fun q' hq' hb' hf' => ?_)⟩
  have : q = q' := by
    rcases Nat.lt_trichotomy q q' with h | h | h
    · exact absurd hb (hf' q h)
    · exact h
    · exact absurd hb' (hf q' h)
  rw [this]
